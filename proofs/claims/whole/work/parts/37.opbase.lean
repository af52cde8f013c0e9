/-! ONE OP: what both sides do ahead of it -/
def qX (b : Nat) (C N : fj_N) (t d r : Nat) : Prop := (b ≤ 10000000 ∧ qR (b, false) C N ∧ N 20 0 27 = 0 ∧ C 0 0 8 = nI t ∧ t < 12 ∧ C 7 t 2 = 1) ∧ (C 7 t 4 = nI d ∧ d ≤ 24 ∧ C 7 t 5 = nI r ∧ r ≤ 12) ∧ N 24 0 t = C 7 t 3 ∧ N 25 0 t = nI d ∧ N 27 0 t = nI r ∧ (∀ j, j < d → N 26 0 (24 * t + j) = C 8 t j) ∧ ∀ j, j < r → N 28 0 (12 * t + j) = C 9 t j
/-- the reference behind the op's number -/
def qg (t : Nat) (pl o a : Int32) (M : fj_M) : Option (Int32 × fj_M) := (dm_99 o M).bind fun q8 => (if M.2 25 0 t < q8.1 then some (2, q8.2) else (if o = 23 then (if q8.2.2 27 0 t = 0 then some (2, q8.2) else dm_102_80 (nI t) pl o a q8.2) else dm_102_80 (nI t) pl o a q8.2))
def qY (b : Nat) (C N : fj_N) (t : Nat) (o a : Int32) (g : fj_M → Option (Int32 × fj_M)) : Prop :=
  (∃ f : Int32, ¬ f ≤ 0 ∧ ¬ f = 9 ∧ (∀ N0 : fj_N, dm_54 t o a (C, N0) = some (f, (C, N0))) ∧ ∀ C0 : fj_N, g (C0, N) = some (f, (C0, N)))
  ∨ (∃ C' N' : fj_N, (∀ N0 : fj_N, dm_54 t o a (C, N0) = some (0, (C, N0))) ∧ (∀ N0 : fj_N, dm_53 t o a (C, N0) = some (1, (C', N0))) ∧ (∀ C0 : fj_N, g (C0, N) = some (0, (C0, N'))) ∧ qR (b + 1, false) C' N' ∧ N' 20 0 27 = 0 ∧ C' 0 0 7 = C 0 0 7)
  ∨ (∃ Cw C' N1 N' : fj_N, (∀ N0 : fj_N, dm_54 t o a (C, N0) = some (0, (C, N0))) ∧ (∀ N0 : fj_N, dm_53 t o a (C, N0) = some (0, (Cw, N0))) ∧ (∀ N0 : fj_N, dm_64 t o a (fj_u1 Cw 7 t 3 (Cw 7 t 3 + 1), N0) = some (C', N0)) ∧ (∀ C0 : fj_N, g (C0, N) = some (0, (C0, N1))) ∧ (∀ C0 : fj_N, dm_95 (C0, N1) = some (C0, N')) ∧ qR (b + 1, false) C' N' ∧ C' 0 0 7 = C 0 0 7)
def qtop (C : fj_N) (t d : Nat) : Int32 := if d = 0 then 0 else C 8 t (d - 1)
theorem qtop_s (C : fj_N) (t e : Nat) : qtop C t (e + 1) = C 8 t e := by
  unfold qtop
  rw [if_neg (by omega)]
  rfl
theorem qk_top {C N0 : fj_N} {t d : Nat} (h4 : C 7 t 4 = nI d) (hd : d ≤ 24) : dm_13 t 0 (C, N0) = some (qtop C t d, (C, N0)) := by
  rcases Nat.eq_zero_or_pos d with rfl | hp
  · rw [qk_below00 (M := (C, N0)) h4]
    rfl
  · obtain ⟨e, rfl⟩ : ∃ e, d = e + 1 := ⟨d - 1, by omega⟩
    rw [qk_below0 (M := (C, N0)) h4 (by omega), qtop_s]
theorem qn_top {C C0 N : fj_N} {t d j : Nat} (ht : t < 12) (hd : d ≤ 24) (h25 : N 25 0 t = nI d) (hst : ∀ j, j < d → N 26 0 (24 * t + j) = C 8 t j) (hj : j < d) : dm_100 (nI t) (nI j) (C0, N) = some (C 8 t (d - 1 - j), (C0, N)) := by
  have e1 : 24 * nI t + nI d - 1 - nI j = nI (24 * t + (d - 1 - j)) := by
    rw [qx_24, qx_add, show (1 : Int32) = nI 1 from rfl, qx_sub (by omega), qx_sub (by omega)]
    congr 1
    omega
  have hw : 24 * t + (d - 1 - j) < 288 := by omega
  have e2 := hst (d - 1 - j) (by omega)
  simp only [dm_100, qx_cl (j := t) (show t ≤ 1000000 by omega), qx_neg (n := t) (show t ≤ 100000000 by omega), Nat.not_le.mpr ht, or_self, ↓reduceIte, h25, e1]
  generalize 24 * t + (d - 1 - j) = w at *
  simp only [qx_cl (j := w) (show w ≤ 1000000 by omega), qx_neg (n := w) (show w ≤ 100000000 by omega), Nat.not_le.mpr hw, or_self, ↓reduceIte, e2]
section QOB
variable {b : Nat} {C N : fj_N} {t d r k g : Nat} {o a pl x : Int32}
theorem qk_few (h2 : ∀ M : fj_M, dm_2 o M = some (1, M)) (ho : ∀ M : fj_M, dm_4 o M = some (nI k, M)) (hk2 : k ≤ 2) (hX : qX b C N t d r) (hk : d < k) (N0 : fj_N) : dm_54 t o a (C, N0) = some (2, (C, N0)) := by
  obtain ⟨-, ⟨h4, hd, -, -⟩, -⟩ := hX
  have h1 : ¬ nI k ≤ nI d := fun q => by
    have := (qx_le (a := k) (b := d) (by omega) (by omega)).mp q
    omega
  simp only [dm_54, h2, Option.bind_some, ↓reduceIte, qz1, dm_55, ho, h4, if_neg h1]
theorem qk_55 (ho : ∀ M : fj_M, dm_4 o M = some (nI k, M)) (n23 : ¬ o = 23) (n45 : ¬ o = 45) (hX : qX b C N t d r) (hk : k ≤ d) (N0 : fj_N) : dm_55 t o (C, N0) = some (0, (C, N0)) := by
  obtain ⟨-, ⟨h4, hd, -, -⟩, -⟩ := hX
  have h1 : nI k ≤ nI d := (qx_le (a := k) (b := d) (by omega) (by omega)).mpr hk
  simp only [dm_55, ho, h4, Option.bind_some, if_pos h1, if_neg n23, if_neg n45]
theorem qk_54 (h2 : ∀ M : fj_M, dm_2 o M = some (1, M)) (h55 : ∀ N0 : fj_N, dm_55 t o (C, N0) = some (0, (C, N0))) (hn : ¬ o = 9 ∧ ¬ o = 10) (hX : qX b C N t d r) (N0 : fj_N) : dm_54 t o a (C, N0) = dm_54_45 t o a (qtop C t d) (C, N0) := by
  obtain ⟨-, ⟨h4, hd, -, -⟩, -⟩ := hX
  simp only [dm_54, h2, Option.bind_some, ↓reduceIte, qz1, h55, qk_top h4 hd, if_neg hn.1, if_neg hn.2]
theorem qk_54d (h2 : ∀ M : fj_M, dm_2 o M = some (1, M)) (h55 : ∀ N0 : fj_N, dm_55 t o (C, N0) = some (0, (C, N0))) (hn : o = 9 ∨ o = 10) (hX : qX b C N t d r) (N0 : fj_N) : dm_54 t o a (C, N0) = dm_54_38 t o a (qtop C t d) (C, N0) := by
  obtain ⟨-, ⟨h4, hd, -, -⟩, -⟩ := hX
  by_cases h9 : o = 9
  · simp only [dm_54, h2, Option.bind_some, ↓reduceIte, qz1, h55, qk_top h4 hd, if_pos h9]
  · simp only [dm_54, h2, Option.bind_some, ↓reduceIte, qz1, h55, qk_top h4 hd, if_neg h9, if_pos (hn.resolve_left h9)]
/-- whether the stack overflows -/
theorem qk_over0 (ho : ∀ M : fj_M, dm_4 o M = some (nI k, M)) (n22 : ¬ o = 22) (h61 : ∀ N0 : fj_N, dm_61 o a (C, N0) = some (nI g, (C, N0))) (hX : qX b C N t d r) (hk : k ≤ d) (hg2 : g ≤ 3) (hg : d - k + g ≤ 24) (N0 : fj_N) : dm_60 t o a (C, N0) = some (0, (C, N0)) := by
  obtain ⟨-, ⟨h4, hd, -, -⟩, -⟩ := hX
  have h1 : nI (d - k + g) ≤ 24 := (qx_le (a := d - k + g) (b := 24) (by omega) (by omega)).mpr hg
  simp only [dm_60, if_neg n22, ho, Option.bind_some, h61, h4, qx_sub hk, qx_add, if_pos h1]
theorem qk_over1 (ho : ∀ M : fj_M, dm_4 o M = some (nI k, M)) (n22 : ¬ o = 22) (h61 : ∀ N0 : fj_N, dm_61 o a (C, N0) = some (nI g, (C, N0))) (hX : qX b C N t d r) (hk : k ≤ d) (hg2 : g ≤ 3) (hg : ¬ d - k + g ≤ 24) (N0 : fj_N) : dm_60 t o a (C, N0) = some (1, (C, N0)) := by
  obtain ⟨-, ⟨h4, hd, -, -⟩, -⟩ := hX
  have h1 : ¬ nI (d - k + g) ≤ 24 := fun q => hg ((qx_le (a := d - k + g) (b := 24) (by omega) (by omega)).mp q)
  simp only [dm_60, if_neg n22, ho, Option.bind_some, h61, h4, qx_sub hk, qx_add, if_neg h1]
/-- ops that aim at no task -/
theorem qk_45 {f s : Int32} (h56 : ∀ N0 : fj_N, dm_56 o a x (C, N0) = some (0, (C, N0))) (h57 : ∀ N0 : fj_N, dm_57 o a (C, N0) = some (0, (C, N0))) (hn : ¬ o = 40 ∧ ¬ o = 41 ∧ ¬ o = 43) (h60 : ∀ N0 : fj_N, dm_60 t o a (C, N0) = some (s, (C, N0))) (hs : (s = 0 ∧ f = 0) ∨ (s = 1 ∧ f = 3)) (N0 : fj_N) : dm_54_45 t o a x (C, N0) = some (f, (C, N0)) := by
  rcases hs with ⟨rfl, rfl⟩ | ⟨rfl, rfl⟩
  · simp only [dm_54_45, h56, h57, Option.bind_some, ↓reduceIte, qz1, if_neg hn.1, if_neg hn.2.1, if_neg hn.2.2, dm_54_91, dm_54_110, h60]
  · simp only [dm_54_45, h56, h57, Option.bind_some, ↓reduceIte, qz1, if_neg hn.1, if_neg hn.2.1, if_neg hn.2.2, dm_54_91, dm_54_110, h60]
theorem qk_45_5 (h56 : ∀ N0 : fj_N, dm_56 o a x (C, N0) = some (1, (C, N0))) (N0 : fj_N) : dm_54_45 t o a x (C, N0) = some (5, (C, N0)) := by
  simp only [dm_54_45, h56, Option.bind_some, ↓reduceIte, qz1]
theorem qk_45_6 (h56 : ∀ N0 : fj_N, dm_56 o a x (C, N0) = some (0, (C, N0))) (h57 : ∀ N0 : fj_N, dm_57 o a (C, N0) = some (1, (C, N0))) (N0 : fj_N) : dm_54_45 t o a x (C, N0) = some (6, (C, N0)) := by
  simp only [dm_54_45, h56, h57, Option.bind_some, ↓reduceIte, qz1]
/-! the reference -/
theorem qn_few (ho : ∀ M : fj_M, dm_99 o M = some (nI k, M)) (hk2 : k ≤ 2) (hX : qX b C N t d r) (hk : d < k) (C0 : fj_N) : qg t pl o a (C0, N) = some (2, (C0, N)) := by
  obtain ⟨-, ⟨-, hd, -, -⟩, -, h25, -⟩ := hX
  have h1 : nI d < nI k := (qx_lt (a := d) (b := k) (by omega) (by omega)).mpr hk
  simp only [qg, ho, Option.bind_some, h25, if_pos h1]
theorem qn_go0 (ho : ∀ M : fj_M, dm_99 o M = some (nI 0, M)) (n23 : ¬ o = 23) (hX : qX b C N t d r) (C0 : fj_N) : qg t pl o a (C0, N) = dm_102_117 (nI t) pl o a 0 0 (C0, N) := by
  obtain ⟨-, ⟨-, hd, -, -⟩, -, h25, -⟩ := hX
  have h1 : ¬ nI d < nI 0 := fun q => by
    have := (qx_lt (a := d) (b := 0) (by omega) (by omega)).mp q
    omega
  have h2 : nI 0 ≤ 0 := by decide
  have h3 : nI 0 ≤ 1 := by decide
  simp only [qg, ho, Option.bind_some, h25, if_neg h1, if_neg n23, dm_102_80, if_pos h2, dm_102_97, if_pos h3]
theorem qn_go1 {e : Nat} (ho : ∀ M : fj_M, dm_99 o M = some (nI 1, M)) (n23 : ¬ o = 23) (hX : qX b C N t (e + 1) r) (C0 : fj_N) : qg t pl o a (C0, N) = dm_102_117 (nI t) pl o a (C 8 t e) 0 (C0, N) := by
  obtain ⟨⟨-, -, -, -, ht, -⟩, ⟨-, hd, -, -⟩, -, h25, -, hst, -⟩ := hX
  have h1 : ¬ nI (e + 1) < nI 1 := fun q => by
    have := (qx_lt (a := e + 1) (b := 1) (by omega) (by omega)).mp q
    omega
  have h2 : ¬ nI 1 ≤ 0 := by decide
  have h3 : nI 1 ≤ 1 := by decide
  have h4 := qn_top (C0 := C0) (j := 0) ht hd h25 hst (by omega)
  rw [show e + 1 - 1 - 0 = e by omega, nI_0] at h4
  simp only [qg, ho, Option.bind_some, h25, if_neg h1, if_neg n23, dm_102_80, if_neg h2, h4, dm_102_97, if_pos h3]
theorem qn_go2 {e : Nat} (ho : ∀ M : fj_M, dm_99 o M = some (nI 2, M)) (n23 : ¬ o = 23) (hX : qX b C N t (e + 2) r) (C0 : fj_N) : qg t pl o a (C0, N) = dm_102_117 (nI t) pl o a (C 8 t (e + 1)) (C 8 t e) (C0, N) := by
  obtain ⟨⟨-, -, -, -, ht, -⟩, ⟨-, hd, -, -⟩, -, h25, -, hst, -⟩ := hX
  have h1 : ¬ nI (e + 2) < nI 2 := fun q => by
    have := (qx_lt (a := e + 2) (b := 2) (by omega) (by omega)).mp q
    omega
  have h2 : ¬ nI 2 ≤ 0 := by decide
  have h3 : ¬ nI 2 ≤ 1 := by decide
  have h4 := qn_top (C0 := C0) (j := 0) ht hd h25 hst (by omega)
  rw [show e + 2 - 1 - 0 = e + 1 by omega, nI_0] at h4
  have h5 := qn_top (C0 := C0) (j := 1) ht hd h25 hst (by omega)
  rw [show e + 2 - 1 - 1 = e by omega, show nI 1 = (1 : Int32) from rfl] at h5
  simp only [qg, ho, Option.bind_some, h25, if_neg h1, if_neg n23, dm_102_80, if_neg h2, h4, dm_102_97, if_neg h3, h5]
/-- a new int on the reference's stack -/
theorem qn_gives {C0 N1 : fj_N} {e n : Nat} {v : Int32} (ht : t < 12) (he : e < 24) (h25 : N1 25 0 t = nI (e + n)) : dm_101 (nI t) (nI n) v (C0, N1) = some (C0, fj_u1 (fj_u1 (fj_u1 N1 25 0 t (nI e)) 26 0 (24 * t + e) v) 25 0 t (nI (e + 1))) := by
  have e1 : nI (e + n) - nI n = nI e := by rw [qx_sub (by omega)]; congr 1; omega
  have hw : 24 * t + e < 288 := by omega
  have e3 : fj_u1 (fj_u1 N1 25 0 t (nI e)) 26 0 (24 * t + e) v 25 0 t = nI e := by rw [qx_un (by omega), qx_us]
  simp only [dm_101, qx_cl (j := t) (show t ≤ 1000000 by omega), qx_neg (n := t) (show t ≤ 100000000 by omega), Nat.not_le.mpr ht, or_self, ↓reduceIte, h25, e1, qx_us, qx_24, qx_add]
  generalize 24 * t + e = w at *
  simp only [qx_cl (j := w) (show w ≤ 1000000 by omega), qx_neg (n := w) (show w ≤ 100000000 by omega), Nat.not_le.mpr hw, or_self, ↓reduceIte, e3, nI_1]
theorem qn_gives0 {C0 N1 : fj_N} {e : Nat} {v : Int32} (ht : t < 12) (he : e < 24) (h25 : N1 25 0 t = nI e) : dm_101 (nI t) 0 v (C0, N1) = some (C0, fj_u1 (fj_u1 N1 26 0 (24 * t + e) v) 25 0 t (nI (e + 1))) := by
  have h := qn_gives (C0 := C0) (N1 := N1) (e := e) (n := 0) (v := v) ht he h25
  have e1 : fj_u1 N1 25 0 t (nI e) = N1 := by rw [← h25]; exact qx_self _ _ _ _
  rw [e1] at h
  exact h
end QOB
