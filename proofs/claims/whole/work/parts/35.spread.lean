/-! FAULTS THAT COME BY LINKS -/
theorem qh_alive_j {C : fj_N} {j : Nat} (hj : j < 12) : qh_alive C (nI j) ↔ qh_live C j := by
  unfold qh_alive
  rw [qx_cl (by omega)]
  exact ⟨fun h => h.2.2, fun h => ⟨qx_neg (by omega), qx_out12 hj, h⟩⟩
theorem qx_trap {B : qB} {C N : fj_N} {j : Nat} (h : qR B C N) (hj : j < 12) : N 29 0 j < 0 ↔ C 7 j 6 = -1 := by
  obtain ⟨⟨a1, a2, a3, a4, a5, a6, a7, a8⟩, b, d, r, e, g, w⟩ := h.2.2.1 j hj
  rw [a5]
  rcases g with g | ⟨p, p1, p2⟩
  · rw [g]
    exact ⟨fun _ => rfl, fun _ => by decide⟩
  · rw [p2]
    exact ⟨fun q => absurd q (qx_neg (by omega)), fun q => absurd q (qx_m1 (by omega))⟩
section QSPR
variable {B : qB} {k u : Nat}
theorem qx_inner (hu : u < 12) : ∀ (r j fuel : Nat), j + r = 12 → r < fuel → ∀ (C N : fj_N) (m : Nat), qI B C N m → k < m → N 39 0 k = nI u → ∃ (m' : Nat) (C' N' : fj_N), m ≤ m' ∧ qI B C' N' m' ∧ C' 0 0 7 = C 0 0 7 ∧
    (∀ (rec37 : Int32 → Int32 → Int32 → Int32 → Option fj_V → Option fj_V → Option fj_V → fj_M → Option fj_M) (a1 a2 : Int32) (o7 : Option fj_V) (N0 : fj_N), ∃ o7' : Option fj_V, dm_62_64 rec37 fuel a1 a2 (nI m) (nI k) ((1 : Int32) <<< (nI u &&& 31)) (nI j) o7 (C, N0) = rec37 a1 a2 (nI m') (nI (k + 1)) (some (.inl ((1 : Int32) <<< (nI u &&& 31)))) (some (.inl (nI 12))) o7' (C', N0)) ∧
    (∀ (rec2 : Int32 → Option fj_V → fj_M → Option fj_M) (C0 : fj_N), dm_95_12 rec2 fuel (nI k) (nI j) (C0, N) = rec2 (nI (k + 1)) (some (.inl (nI 12))) (C0, N')) := by
  intro r
  induction r with
  | zero =>
    intro j fuel hj hf C N m hI hkm h39
    obtain ⟨f, rfl⟩ : ∃ f, fuel = f + 1 := ⟨fuel - 1, by omega⟩
    have hj : j = 12 := by omega
    subst hj
    have e12 : (12 : Int32) ≤ nI 12 := by decide
    refine ⟨m, C, N, Nat.le_refl m, hI, rfl, fun rec37 a1 a2 o7 N0 => ⟨o7, ?_⟩, fun rec2 C0 => ?_⟩
    · simp only [dm_62_64, if_pos e12, nI_1]
    · simp only [dm_95_12, if_pos e12, nI_1]
  | succ r ih =>
    intro j fuel hj hf C N m hI hkm h39
    obtain ⟨f, rfl⟩ : ∃ f, fuel = f + 1 := ⟨fuel - 1, by omega⟩
    have hj2 : j < 12 := by omega
    have hk2 : k < 12 := by
      have h1 := hI.2.2.1
      have h2 := qn8_le C 12
      omega
    have hv : (¬ N 23 0 j < 1 ∧ ¬ 6 < N 23 0 j) ↔ qh_live C j := by rw [(hI.1.2.2.1 j hj2).1.1]; exact Iff.rfl
    have h30 : N 30 0 j = C 7 j 7 := (hI.1.2.2.1 j hj2).1.2.2.2.2.2.1
    have hbit := qx_bit (C 7 j 7) hu
    by_cases hl : qh_live C j
    · have ha : qh_alive C (nI j) := (qh_alive_j hj2).mpr hl
      have ka := fun N0 : fj_N => qk_alive1 (M := (C, N0)) ha
      have na := fun C0 : fj_N => qn_live1 (C := C0) hj2 (hv.mpr hl)
      by_cases hb : (C 7 j 7 &&& ((1 : Int32) <<< (nI u &&& 31))) = 0
      · have hb2 : ¬ ((C 7 j 7 >>> (nI u &&& 31)) &&& 1) = 1 := hbit.mp hb
        obtain ⟨m', C', N', h1, h2, h3, h4, h5⟩ := ih (j + 1) f (by omega) (by omega) C N m hI hkm h39
        refine ⟨m', C', N', h1, h2, h3, fun rec37 a1 a2 o7 N0 => ?_, fun rec2 C0 => ?_⟩
        · obtain ⟨o7', h6⟩ := h4 rec37 a1 a2 (some (.inl 0)) N0
          refine ⟨o7', ?_⟩
          rw [← h6]
          simp only [dm_62_64, if_neg (qx_out12 hj2), ka, Option.bind_some, ↓reduceIte, qz1, qx_cl (j := j) (show j ≤ 1000000 by omega), qx_neg (n := j) (show j ≤ 100000000 by omega), Nat.not_le.mpr hj2, or_self, hb, dm_62_100, dm_62_101, dm_62_141, nI_1]
        · rw [← h5 rec2 C0]
          simp only [dm_95_12, if_neg (qx_out12 hj2), na, Option.bind_some, ↓reduceIte, qz1, qx_cl (j := j) (show j ≤ 1000000 by omega), qx_neg (n := j) (show j ≤ 100000000 by omega), Nat.not_le.mpr hj2, or_self, qx_cl (j := k) (show k ≤ 1000000 by omega), qx_neg (n := k) (show k ≤ 100000000 by omega), Nat.not_le.mpr hk2, or_self, h30, h39, if_neg hb2, dm_95_53, nI_1]
      · have hb2 : ((C 7 j 7 >>> (nI u &&& 31)) &&& 1) = 1 := Classical.not_not.mp fun q => hb (hbit.mpr q)
        have hm12 : m < 12 := qI_lt hI hj2 hl
        have hm12' : ¬ (12 : Int32) ≤ nI m := qx_out12 hm12
        by_cases ht : C 7 j 6 = -1
        · have ht2 : N 29 0 j < 0 := (qx_trap hI.1 hj2).mpr ht
          have hI2 := qI_fall (f := 8) hI hj2 hl
          obtain ⟨m', C', N', h1, h2, h3, h4, h5⟩ := ih (j + 1) f (by omega) (by omega) _ _ (m + 1) hI2 (by omega) (by unfold qna; rw [qx_un (by omega), qx_un (by omega), qx_un (by omega), qx_un (by omega), qx_un (by omega), qx_un (by omega)]; exact h39)
          refine ⟨m', C', N', by omega, h2, by rw [h3, qx_un (by omega)]; unfold qka; rw [qx_un (by omega), qx_un (by omega), qx_un (by omega)], fun rec37 a1 a2 o7 N0 => ?_, fun rec2 C0 => ?_⟩
          · obtain ⟨o7', h6⟩ := h4 rec37 a1 a2 (some (.inl 1)) N0
            refine ⟨o7', ?_⟩
            rw [← h6]
            simp only [dm_62_64, if_neg (qx_out12 hj2), ka, Option.bind_some, ↓reduceIte, qz1, qx_cl (j := j) (show j ≤ 1000000 by omega), qx_neg (n := j) (show j ≤ 100000000 by omega), Nat.not_le.mpr hj2, or_self, if_neg hb, dm_62_101, qk_strike1 (N0 := N0) (f := 8) (Or.inl ht), if_neg hm12', qx_cl (j := m) (show m ≤ 1000000 by omega), qx_neg (n := m) (show m ≤ 100000000 by omega), Nat.not_le.mpr hm12, or_self, dm_62_141, nI_1]
          · rw [← h5 rec2 C0]
            simp only [dm_95_12, if_neg (qx_out12 hj2), na, Option.bind_some, ↓reduceIte, qz1, qx_cl (j := j) (show j ≤ 1000000 by omega), qx_neg (n := j) (show j ≤ 100000000 by omega), Nat.not_le.mpr hj2, or_self, qx_cl (j := k) (show k ≤ 1000000 by omega), qx_neg (n := k) (show k ≤ 100000000 by omega), Nat.not_le.mpr hk2, or_self, h30, h39, if_pos hb2, qn_fault1 (C0 := C0) (f := 8) hj2 hI.2.1 hm12 ht2, dm_95_53, nI_1]
        · have ht2 : ¬ N 29 0 j < 0 := fun q => ht ((qx_trap hI.1 hj2).mp q)
          have hI2 := qI_trap (f := 8) hI hj2 hl
          have hf9 : ¬ (8 : Int32) = 9 := by decide
          obtain ⟨m', C', N', h1, h2, h3, h4, h5⟩ := ih (j + 1) f (by omega) (by omega) _ _ m hI2 hkm (by unfold qnt; rw [qx_un (by omega), qx_un (by omega), qx_un (by omega), qx_un (by omega), qx_un (by omega), qx_un (by omega), qx_un (by omega), qx_un (by omega)]; exact h39)
          refine ⟨m', C', N', by omega, h2, by rw [h3]; unfold qkt; rw [qx_un (by omega), qx_un (by omega), qx_un (by omega), qx_un (by omega), qx_un (by omega), qx_un (by omega), qx_un (by omega)], fun rec37 a1 a2 o7 N0 => ?_, fun rec2 C0 => ?_⟩
          · obtain ⟨o7', h6⟩ := h4 rec37 a1 a2 (some (.inl 1)) N0
            refine ⟨o7', ?_⟩
            rw [← h6]
            simp only [dm_62_64, if_neg (qx_out12 hj2), ka, Option.bind_some, ↓reduceIte, qz1, qx_cl (j := j) (show j ≤ 1000000 by omega), qx_neg (n := j) (show j ≤ 100000000 by omega), Nat.not_le.mpr hj2, or_self, if_neg hb, dm_62_101, qk_strike0 (N0 := N0) ht hf9, dm_62_141, nI_1]
          · rw [← h5 rec2 C0]
            simp only [dm_95_12, if_neg (qx_out12 hj2), na, Option.bind_some, ↓reduceIte, qz1, qx_cl (j := j) (show j ≤ 1000000 by omega), qx_neg (n := j) (show j ≤ 100000000 by omega), Nat.not_le.mpr hj2, or_self, qx_cl (j := k) (show k ≤ 1000000 by omega), qx_neg (n := k) (show k ≤ 100000000 by omega), Nat.not_le.mpr hk2, or_self, h30, h39, if_pos hb2, qn_fault0 (C0 := C0) (f := 8) hj2 ht2, dm_95_53, nI_1]
    · have ha : ¬ qh_alive C (nI j) := fun q => hl ((qh_alive_j hj2).mp q)
      have ka := fun N0 : fj_N => qk_alive0 (M := (C, N0)) ha
      have na := fun C0 : fj_N => qn_live0 (C := C0) hj2 (fun q => hl (hv.mp q))
      obtain ⟨m', C', N', h1, h2, h3, h4, h5⟩ := ih (j + 1) f (by omega) (by omega) C N m hI hkm h39
      refine ⟨m', C', N', h1, h2, h3, fun rec37 a1 a2 o7 N0 => ?_, fun rec2 C0 => ?_⟩
      · obtain ⟨o7', h6⟩ := h4 rec37 a1 a2 (some (.inl 0)) N0
        refine ⟨o7', ?_⟩
        rw [← h6]
        simp only [dm_62_64, if_neg (qx_out12 hj2), ka, Option.bind_some, ↓reduceIte, qz1, dm_62_100, dm_62_101, dm_62_141, nI_1]
      · rw [← h5 rec2 C0]
        simp only [dm_95_12, if_neg (qx_out12 hj2), na, Option.bind_some, ↓reduceIte, qz1, dm_95_53, nI_1]
end QSPR
theorem qx_outer {B : qB} : ∀ (r k fuel : Nat), k + r = 12 → r < fuel → ∀ (C N : fj_N) (m : Nat), qI B C N m → k ≤ m → ∃ C' N' : fj_N, qR B C' N' ∧ C' 0 0 7 = C 0 0 7 ∧ (∀ (a1 a2 : Int32) (o5 o6 o7 : Option fj_V) (N0 : fj_N), dm_62_37 fuel a1 a2 (nI m) (nI k) o5 o6 o7 (C, N0) = some (C', N0)) ∧ (∀ (o : Option fj_V) (C0 : fj_N), dm_95_2 fuel (nI k) o (C0, N) = some (C0, N')) := by
  intro r
  induction r with
  | zero =>
    intro k fuel hk hf C N m hI hkm
    obtain ⟨f, rfl⟩ : ∃ f, fuel = f + 1 := ⟨fuel - 1, by omega⟩
    have h1 := hI.2.2.1
    have h2 := qn8_le C 12
    have hm : m = k := by omega
    subst hm
    refine ⟨C, N, hI.1, rfl, fun a1 a2 o5 o6 o7 N0 => ?_, fun o C0 => ?_⟩
    · simp only [dm_62_37, if_pos (Int32.le_refl (nI m))]
    · simp only [dm_95_2, hI.2.1, if_pos (Int32.le_refl (nI m))]
  | succ r ih =>
    intro k fuel hk hf C N m hI hkm
    obtain ⟨f, rfl⟩ : ∃ f, fuel = f + 1 := ⟨fuel - 1, by omega⟩
    have h1 := hI.2.2.1
    have h2 := qn8_le C 12
    by_cases hm : m = k
    · subst hm
      refine ⟨C, N, hI.1, rfl, fun a1 a2 o5 o6 o7 N0 => ?_, fun o C0 => ?_⟩
      · simp only [dm_62_37, if_pos (Int32.le_refl (nI m))]
      · simp only [dm_95_2, hI.2.1, if_pos (Int32.le_refl (nI m))]
    · have hk2 : k < 12 := by omega
      have hlt : ¬ nI m ≤ nI k := fun q => by
        have := (qx_le (a := m) (b := k) (by omega) (by omega)).mp q
        omega
      obtain ⟨u, hu, w2, w3⟩ := hI.2.2.2 k (by omega)
      obtain ⟨m', C1, N1, g1, g2, g3, g4, g5⟩ := qx_inner (B := B) (k := k) (u := u) hu 12 0 40 (by omega) (by omega) C N m hI (by omega) w3
      obtain ⟨C', N', r1, r2, r3, r4⟩ := ih (k + 1) f (by omega) (by omega) C1 N1 m' g2 (by omega)
      refine ⟨C', N', r1, r2.trans g3, fun a1 a2 o5 o6 o7 N0 => ?_, fun o C0 => ?_⟩
      · obtain ⟨o7', g6⟩ := g4 (dm_62_37 f) a1 a2 o7 N0
        rw [nI_0] at g6
        simp only [dm_62_37, if_neg hlt, if_neg (qx_out12 hk2), qx_cl (j := k) (show k ≤ 1000000 by omega), qx_neg (n := k) (show k ≤ 100000000 by omega), Nat.not_le.mpr hk2, or_self, ↓reduceIte, w2, g6, r3]
      · have g6 := g5 (dm_95_2 f) C0
        rw [nI_0] at g6
        simp only [dm_95_2, hI.2.1, if_neg hlt, g6, r4]
/-- the whole of a fault's way, from no fallen on -/
theorem qx_none {B : qB} {C N : fj_N} (hR : qR B C N) (h27 : N 20 0 27 = 0) : qI B C N 0 := ⟨hR, h27, Nat.zero_le _, fun k hk => absurd hk (Nat.not_lt_zero k)⟩
theorem qn_spread0 {N : fj_N} (h27 : N 20 0 27 = 0) (C0 : fj_N) : dm_95 (C0, N) = some (C0, N) := by
  simp only [dm_95, dm_95_2, h27, if_pos (Int32.le_refl (0 : Int32))]
theorem qk_kill0 {C N0 : fj_N} {u : Nat} (hu : u < 12) (hl : ¬ qh_live C u) (f : Int32) : dm_62 (nI u) f (C, N0) = some (C, N0) := by
  have ka := qk_alive0 (M := (C, N0)) (fun q => hl ((qh_alive_j hu).mp q))
  simp only [dm_62, ka, Option.bind_some, ↓reduceIte, qz1, dm_62_34, dm_62_37, if_pos (Int32.le_refl (0 : Int32))]
