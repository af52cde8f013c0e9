/-! STEP AND RUN -/
/-- a pair of calls, each whatever the other side's memory is -/
def qQ (b b' : Nat) (f g : fj_M → Option (Int32 × fj_M)) : Prop := ∀ C N : fj_N, qR (b, true) C N → qW C → ∃ (v : Int32) (C' N' : fj_N), (∀ N0 : fj_N, f (C, N0) = some (v, (C', N0))) ∧ (∀ C0 : fj_N, g (C0, N) = some (v, (C0, N'))) ∧ qR (b', true) C' N' ∧ qW C'
theorem qQ_P {b b' : Nat} {f g : fj_M → Option (Int32 × fj_M)} (h : qQ b b' f g) : qP (b, true) (b', true) f g := by
  intro C N hR hW
  obtain ⟨v, C', N', h1, h2, h3, h4⟩ := h C N hR hW
  exact ⟨v, C', N', h1 N, h2 C', h3, h4⟩
theorem qst_v (C : fj_N) : qst C = 1 ∨ qst C = 2 ∨ qst C = 3 := by
  unfold qst
  by_cases h : ∃ j, j < 12 ∧ qh_live C j
  · rw [if_pos h]
    by_cases h5 : ∃ j, j < 12 ∧ C 7 j 2 = 5
    · rw [if_pos h5]; exact Or.inl rfl
    · rw [if_neg h5]; exact Or.inr (Or.inr rfl)
  · rw [if_neg h]; exact Or.inr (Or.inl rfl)
/-- the reference's word of a standstill -/
theorem qn_stand (C C0 N1 : fj_N) (s0 : Int32) : dm_97_124 (qfl C 12) (qfs C 12) s0 (-1) (C0, N1) = dm_97_147 (qfl C 12) (qfs C 12) (-1) (qst (qsl C 12)) (C0, N1) := by
  have hl : (∃ j, j < 12 ∧ qh_live (qsl C 12) j) ↔ ∃ j, j < 12 ∧ qh_live C j := by
    constructor
    · rintro ⟨j, h1, h2⟩
      exact ⟨j, h1, qsl_live.mp h2⟩
    · rintro ⟨j, h1, h2⟩
      exact ⟨j, h1, qsl_live.mpr h2⟩
  have h0 : ¬ (0 : Int32) ≤ -1 := by decide
  unfold qst
  by_cases h : ∃ j, j < 12 ∧ qh_live C j
  · rw [if_pos (hl.mpr h), qfl_1 h]
    by_cases h5 : ∃ j, j < 12 ∧ qsl C 12 7 j 2 = 5
    · rw [if_pos h5, qfs_1 h5]
      simp only [dm_97_124, if_neg h0, qz1]
    · rw [if_neg h5, qfs_0 h5]
      simp only [dm_97_124, if_neg h0, qz1, ↓reduceIte]
  · rw [if_neg (fun q => h (hl.mp q)), qfl_0 h]
    simp only [dm_97_124, if_neg h0, ↓reduceIte]
/-- the standstill, both sides -/
theorem qx_stand {b : Nat} {C N : fj_N} {v : Int32} (hv : v = 1 ∨ v = 2 ∨ v = 3) (hR : qR (b, true) C N) (hW : qW C) (a1 a2 a3 : Int32) :
    ∃ C3 N3 : fj_N, (∀ N0 : fj_N, dm_49_20 v (C, N0) = some (v, (C3, N0))) ∧ (∀ C0 : fj_N, dm_97_147 a1 a2 a3 v (C0, N) = some (v, (C0, N3))) ∧ qR (b + 1, true) C3 N3 ∧ qW C3 := by
  have hv0 : ¬ v = 0 := by rcases hv with rfl | rfl | rfl <;> decide
  have hR' : qR (b + 1, true) C N := qR_mono hR (Nat.le_succ b)
  obtain ⟨⟨s1, s2, s3, s4, s5, s6, s7, s8⟩, s9, p, p1, p2⟩ := hR'.1
  by_cases h1 : v = 1
  · subst h1
    refine ⟨fj_u1 (fj_u1 C 0 0 7 1) 0 0 10 (C 0 0 10 + 1), fj_u1 (fj_u1 N 20 0 23 1) 20 0 19 (N 20 0 19 + 1), fun N0 => ?_, fun C0 => ?_, qR_sc hR' (fun κ i j hk => by rw [qx_un (by omega), qx_un (by omega)]) (fun κ i j hk => by rw [qx_un (by omega), qx_un (by omega)]) ?_, qW_cg hW (fun i j => by rw [qx_un (by omega), qx_un (by omega)]) (fun i j => by rw [qx_un (by omega), qx_un (by omega)])⟩
    · have e10 : fj_u1 C 0 0 7 1 0 0 10 = C 0 0 10 := qx_un (by omega)
      have e7 : fj_u1 (fj_u1 C 0 0 7 1) 0 0 10 (C 0 0 10 + 1) 0 0 7 = 1 := by rw [qx_un (by omega), qx_us]
      simp only [dm_49_20, qx_us, if_neg hv0, dm_49_48, ↓reduceIte, dm_49_63, e10, e7]
    · have e19 : fj_u1 N 20 0 23 1 20 0 19 = N 20 0 19 := qx_un (by omega)
      have e23 : fj_u1 (fj_u1 N 20 0 23 1) 20 0 19 (N 20 0 19 + 1) 20 0 23 = 1 := by rw [qx_un (by omega), qx_us]
      simp only [dm_97_147, qx_us, ↓reduceIte, e19, e23]
    · have ec : ∀ j, j ≠ 7 → j ≠ 10 → fj_u1 (fj_u1 C 0 0 7 1) 0 0 10 (C 0 0 10 + 1) 0 0 j = C 0 0 j := fun j h1 h2 => by rw [qx_un (by omega), qx_un (by omega)]
      have en : ∀ j, j ≠ 23 → j ≠ 19 → fj_u1 (fj_u1 N 20 0 23 1) 20 0 19 (N 20 0 19 + 1) 20 0 j = N 20 0 j := fun j h1 h2 => by rw [qx_un (by omega), qx_un (by omega)]
      have e7 : fj_u1 (fj_u1 C 0 0 7 1) 0 0 10 (C 0 0 10 + 1) 0 0 7 = 1 := by rw [qx_un (by omega), qx_us]
      have e23 : fj_u1 (fj_u1 N 20 0 23 1) 20 0 19 (N 20 0 19 + 1) 20 0 23 = 1 := by rw [qx_un (by omega), qx_us]
      unfold qS
      rw [qx_us, qx_us, e7, e23, ec 11 (by omega) (by omega), ec 8 (by omega) (by omega), ec 9 (by omega) (by omega), ec 6 (by omega) (by omega), ec 12 (by omega) (by omega), ec 13 (by omega) (by omega), en 18 (by omega) (by omega), en 20 (by omega) (by omega), en 21 (by omega) (by omega), en 22 (by omega) (by omega), en 24 (by omega) (by omega), en 25 (by omega) (by omega)]
      exact ⟨⟨s1, by rw [s2], s3, s4, s5, fun _ => rfl, s7, s8⟩, s9, p, p1, p2⟩
  · refine ⟨fj_u1 C 0 0 7 v, fj_u1 (fj_u1 N 20 0 23 v) 20 0 19 (N 20 0 19 + 0), fun N0 => ?_, fun C0 => ?_, qR_sc hR' (fun κ i j hk => by rw [qx_un (by omega)]) (fun κ i j hk => by rw [qx_un (by omega), qx_un (by omega)]) ?_, qW_cg hW (fun i j => by rw [qx_un (by omega)]) (fun i j => by rw [qx_un (by omega)])⟩
    · simp only [dm_49_20, qx_us, if_neg hv0, dm_49_48, if_neg h1]
    · have e19 : fj_u1 N 20 0 23 v 20 0 19 = N 20 0 19 := qx_un (by omega)
      have e23 : fj_u1 (fj_u1 N 20 0 23 v) 20 0 19 (N 20 0 19 + 0) 20 0 23 = v := by rw [qx_un (by omega), qx_us]
      simp only [dm_97_147, qx_us, if_neg h1, e19, e23]
    · have ec : ∀ j, j ≠ 7 → fj_u1 C 0 0 7 v 0 0 j = C 0 0 j := fun j h1 => by rw [qx_un (by omega)]
      have en : ∀ j, j ≠ 23 → j ≠ 19 → fj_u1 (fj_u1 N 20 0 23 v) 20 0 19 (N 20 0 19 + 0) 20 0 j = N 20 0 j := fun j h1 h2 => by rw [qx_un (by omega), qx_un (by omega)]
      have e23 : fj_u1 (fj_u1 N 20 0 23 v) 20 0 19 (N 20 0 19 + 0) 20 0 23 = v := by rw [qx_un (by omega), qx_us]
      unfold qS
      rw [qx_us, qx_us, e23, ec 11 (by omega), ec 10 (by omega), ec 8 (by omega), ec 9 (by omega), ec 6 (by omega), ec 12 (by omega), ec 13 (by omega), en 18 (by omega) (by omega), en 20 (by omega) (by omega), en 21 (by omega) (by omega), en 22 (by omega) (by omega), en 24 (by omega) (by omega), en 25 (by omega) (by omega)]
      exact ⟨⟨s1, by rw [s2, Int32.add_zero], s3, s4, s5, fun _ => rfl, s7, s8⟩, s9, p, p1, p2⟩
theorem qq_step (hop : qOP) {b : Nat} (hb : b ≤ 10000000) : qQ b (b + 1) dm_49 dm_97 := by
  intro C N hR hW
  have hR1 := qsl_R hR
  have hW1 := qsl_W hW
  have hk := qk_sleep C
  have hn := fun C0 : fj_N => qn_sleep (C0 := C0) hR
  have hst := fun C0 : fj_N => qn_stand C C0 (qsm C N 12)
  generalize qsl C 12 = C1 at *
  generalize qsm C N 12 = N1 at *
  generalize qfl C 12 = F1 at *
  generalize qfs C 12 = F2 at *
  obtain ⟨⟨s1, s2, s3, s4, s5, s6, s7, s8⟩, ⟨t, ht, ht8⟩, s10⟩ := hR1.1
  have hn20 : N1 20 0 20 = nI t := s3.trans ht8
  have e12 : (12 : Int32) ≤ nI 12 := by decide
  have e23 : ∀ j, j < 12 → N1 23 0 j = C1 7 j 2 := fun j hj => (hR1.2.2.1 j hj).1.1
  by_cases hA : ¬ C1 0 0 9 ≤ 0 ∧ C1 7 t 2 = 1
  · obtain ⟨hL, hs⟩ := hA
    obtain ⟨C3, N3, r1, r2, r3, r4⟩ := qx_ran hop hb hR1 ht (fun κ i j _ => rfl) ht8 rfl hs F1 F2
    refine ⟨0, C3, N3, fun N0 => ?_, fun C0 => ?_, r3, r4⟩
    · simp only [dm_49, hk, Option.bind_some, ↓reduceIte, qz1, dm_50, if_neg hL, ht8, qx_cl (j := t) (show t ≤ 1000000 by omega), qx_neg (n := t) (show t ≤ 100000000 by omega), Nat.not_le.mpr ht, or_self, hs, r1]
    · rw [hn C0]
      simp only [dm_97_6, if_pos e12, s4, if_neg hL, hn20, qx_cl (j := t) (show t ≤ 1000000 by omega), qx_neg (n := t) (show t ≤ 100000000 by omega), Nat.not_le.mpr ht, or_self, ↓reduceIte, e23 t ht, hs, dm_97_124, if_pos (qx_nn (n := t) (show t ≤ 100000000 by omega)), r2]
  · have hd50 : ∀ N0 : fj_N, dm_50 (C1, N0) = dm_50_27 40 1 none (C1, N0) := by
      intro N0
      by_cases hL : C1 0 0 9 ≤ 0
      · simp only [dm_50, if_pos hL, dm_50_25]
      · have hs : ¬ C1 7 t 2 = 1 := fun q => hA ⟨hL, q⟩
        simp only [dm_50, if_neg hL, ht8, qx_cl (j := t) (show t ≤ 1000000 by omega), qx_neg (n := t) (show t ≤ 100000000 by omega), Nat.not_le.mpr ht, or_self, ↓reduceIte, if_neg hs, dm_50_25]
    have hd97 : ∀ C0 : fj_N, dm_97_6 28 F1 F2 (nI 12) (C0, N1) = dm_97_120 F1 F2 (nI 12) (C0, N1) := by
      intro C0
      by_cases hL : C1 0 0 9 ≤ 0
      · simp only [dm_97_6, if_pos e12, s4, if_pos hL]
      · have hs : ¬ C1 7 t 2 = 1 := fun q => hA ⟨hL, q⟩
        simp only [dm_97_6, if_pos e12, s4, if_neg hL, hn20, qx_cl (j := t) (show t ≤ 1000000 by omega), qx_neg (n := t) (show t ≤ 100000000 by omega), Nat.not_le.mpr ht, or_self, ↓reduceIte, e23 t ht, if_neg hs]
    rcases qx_ring (fun k => C1 7 ((t + k) % 12) 2 = 1) with h0 | ⟨k, k1, k2, k3, k4⟩
    · have g1 := fun N0 : fj_N => qk_ring0 (N := N0) ht8 ht h0 12 1 40 none (by omega) (by omega) (by omega)
      have g2 := fun C0 : fj_N => qn_ring0 (C0 := C0) hn20 ht (fun j j1 j2 => by rw [e23 _ (Nat.mod_lt _ (by omega))]; exact h0 j j1 j2) 12 1 40 none (by omega) (by omega) (by omega)
      obtain ⟨C3, N3, r1, r2, r3, r4⟩ := qx_stand (qst_v C1) hR1 hW1 F1 F2 (-1)
      refine ⟨qst C1, C3, N3, fun N0 => ?_, fun C0 => ?_, r3, r4⟩
      · have g1' := g1 N0
        rw [show nI 1 = (1 : Int32) from rfl] at g1'
        simp only [dm_49, hk, Option.bind_some, hd50, g1', ↓reduceIte, qk_stand, r1]
      · have g2' := g2 C0
        rw [show nI 1 = (1 : Int32) from rfl] at g2'
        rw [hn C0, hd97]
        simp only [dm_97_120, dm_96, g2', Option.bind_some, hst, r2]
    · have hu : (t + k) % 12 < 12 := Nat.mod_lt _ (by omega)
      have g1 := fun N0 : fj_N => qk_ring1 (N := N0) ht8 ht k2 k3 k4 (k - 1) 1 40 none (by omega) (by omega) (by omega)
      have g2 := fun C0 : fj_N => qn_ring1 (C0 := C0) hn20 ht k2 (by rw [e23 _ hu]; exact k3) (fun j j1 j2 => by rw [e23 _ (Nat.mod_lt _ (by omega))]; exact k4 j j1 j2) (k - 1) 1 40 none (by omega) (by omega) (by omega)
      generalize (t + k) % 12 = u at *
      obtain ⟨C3, N3, r1, r2, r3, r4⟩ := qx_ran hop hb (C2 := qtu C1 u) (L := C1 0 0 6) hR1 hu (fun κ i j h => by unfold qtu; rw [qx_un (by omega), qx_un (by omega)]) (by unfold qtu; rw [qx_un (by omega), qx_us]) (by unfold qtu; rw [qx_us]) k3 F1 F2
      refine ⟨0, C3, N3, fun N0 => ?_, fun C0 => ?_, r3, r4⟩
      · have g1' := g1 N0
        rw [show nI 1 = (1 : Int32) from rfl] at g1'
        simp only [dm_49, hk, Option.bind_some, hd50, g1', qz1, r1]
      · have g2' := g2 C0
        rw [show nI 1 = (1 : Int32) from rfl] at g2'
        have e124 : dm_97_124 F1 F2 (nI 12) (nI u) (C0, N1) = dm_97_205 F1 F2 (nI u) (C0, N1) := by
          by_cases hL : C1 0 0 9 ≤ 0
          · simp only [dm_97_124, if_pos (qx_nn (n := u) (show u ≤ 100000000 by omega)), s4, if_pos hL]
          · have hs : ¬ C1 7 t 2 = 1 := fun q => hA ⟨hL, q⟩
            simp only [dm_97_124, if_pos (qx_nn (n := u) (show u ≤ 100000000 by omega)), s4, if_neg hL, hn20, qx_cl (j := t) (show t ≤ 1000000 by omega), qx_neg (n := t) (show t ≤ 100000000 by omega), Nat.not_le.mpr ht, or_self, ↓reduceIte, e23 t ht, if_neg hs]
        rw [hn C0, hd97]
        simp only [dm_97_120, dm_96, g2', Option.bind_some, e124, dm_97_205, s5, r2]
theorem qq_run_loop (hop : qOP) {n : Nat} (hn5 : n ≤ 5000) : ∀ (m k fuel : Nat), k + m = n → m < fuel → ∀ (b : Nat) (C N : fj_N), b + m ≤ 10000000 → qR (b, true) C N → qW C → ∃ (v : Int32) (C' N' : fj_N), (∀ (N0 : fj_N) (o : Option fj_V), dm_25_16 fuel (nI n) (nI k) o (C, N0) = some (v, (C', N0))) ∧ (∀ (C0 : fj_N) (o : Option fj_V), dm_98_16 fuel (nI n) (nI k) o (C0, N) = some (v, (C0, N'))) ∧ qR (b + m, true) C' N' ∧ qW C' := by
  intro m
  induction m with
  | zero =>
    intro k fuel hk hf b C N hb hR hW
    obtain ⟨f, rfl⟩ : ∃ f, fuel = f + 1 := ⟨fuel - 1, by omega⟩
    have hk : k = n := by omega
    subst hk
    refine ⟨nI k, C, N, fun N0 o => ?_, fun C0 o => ?_, hR, hW⟩
    · simp only [dm_25_16, if_pos (Int32.le_refl (nI k))]
    · simp only [dm_98_16, if_pos (Int32.le_refl (nI k))]
  | succ m ih =>
    intro k fuel hk hf b C N hb hR hW
    obtain ⟨f, rfl⟩ : ∃ f, fuel = f + 1 := ⟨fuel - 1, by omega⟩
    have h1 : ¬ nI n ≤ nI k := fun q => by
      have := (qx_le (a := n) (b := k) (by omega) (by omega)).mp q
      omega
    obtain ⟨v, C1, N1, e1, e2, hR1, hW1⟩ := qq_step hop (b := b) (by omega) C N hR hW
    by_cases v2 : v = 2
    · subst v2
      refine ⟨nI k, C1, N1, fun N0 o => ?_, fun C0 o => ?_, qR_mono hR1 (by omega), hW1⟩
      · simp only [dm_25_16, if_neg h1, e1, Option.bind_some, ↓reduceIte]
      · simp only [dm_98_16, if_neg h1, e2, Option.bind_some, ↓reduceIte]
    by_cases v3 : v = 3
    · subst v3
      refine ⟨nI k, C1, N1, fun N0 o => ?_, fun C0 o => ?_, qR_mono hR1 (by omega), hW1⟩
      · simp only [dm_25_16, if_neg h1, e1, Option.bind_some, if_neg v2, ↓reduceIte]
      · simp only [dm_98_16, if_neg h1, e2, Option.bind_some, if_neg v2, ↓reduceIte]
    obtain ⟨w, C2, N2, g1, g2, hR2, hW2⟩ := ih (k + 1) f (by omega) (by omega) (b + 1) C1 N1 (by omega) hR1 hW1
    refine ⟨w, C2, N2, fun N0 o => ?_, fun C0 o => ?_, by rw [show b + (m + 1) = b + 1 + m by omega]; exact hR2, hW2⟩
    · simp only [dm_25_16, if_neg h1, e1, Option.bind_some, if_neg v2, if_neg v3, nI_1, g1]
    · simp only [dm_98_16, if_neg h1, e2, Option.bind_some, if_neg v2, if_neg v3, nI_1, g2]
theorem qp_step (hop : qOP) {b : Nat} (hb : b ≤ 9000000) : qP (b, true) (b + 5000, true) dm_24 dm_97 := by
  refine qQ_P (fun C N hR hW => ?_)
  obtain ⟨v, C1, N1, e1, e2, hR1, hW1⟩ := qq_step hop (b := b) (by omega) C N hR hW
  exact ⟨v, C1, N1, fun N0 => by simp only [dm_24, e1, Option.bind_some], e2, qR_mono hR1 (by omega), hW1⟩
theorem qp_run (hop : qOP) {b : Nat} (hb : b ≤ 9000000) (a : Int32) : qP (b, true) (b + 5000, true) (dm_25 a) (dm_98 a) := by
  refine qQ_P (fun C N hR hW => ?_)
  rcases qx_ix a (n := 5001) (by decide) with h | h | ⟨n, hn, rfl⟩
  · exact ⟨-2, C, N, fun N0 => by simp only [dm_25, if_pos h], fun C0 => by simp only [dm_98, qg78_0_5000_o (Or.inl h), Option.bind_some, ↓reduceIte], qR_mono hR (by omega), hW⟩
  · have h2 : ¬ a ≤ 5000 := fun q => by
      have h3 := h.2
      rw [Int32.le_iff_toInt_le, nI_toInt (by omega)] at h3
      rw [Int32.le_iff_toInt_le] at q
      have e1 : (5000 : Int32).toInt = 5000 := by decide
      omega
    exact ⟨-2, C, N, fun N0 => by simp only [dm_25, if_neg h.1, if_neg h2], fun C0 => by simp only [dm_98, qg78_0_5000_o (Or.inr h), Option.bind_some, ↓reduceIte], qR_mono hR (by omega), hW⟩
  · obtain ⟨v, C1, N1, e1, e2, hR1, hW1⟩ := qq_run_loop hop (n := n) (by omega) n 0 5001 (by omega) (by omega) b C N (by omega) hR hW
    have h2 : nI n ≤ 5000 := (qx_le (a := n) (b := 5000) (by omega) (by omega)).mpr (by omega)
    exact ⟨v, C1, N1, fun N0 => by simp only [dm_25, if_neg (qx_neg (n := n) (by omega)), if_pos h2]; exact e1 N0 none, fun C0 => by simp only [dm_98, qg78_0_5000_i (j := n) (by omega) (by omega), Option.bind_some, qz1]; exact e2 C0 none, qR_mono hR1 (by omega), hW1⟩
