/-! PAIRS OF CALLS THAT ASK OR SET A WORD -/
theorem qz0 {α : Type} {a b : α} : (if (0 : Int32) = 0 then a else b) = a := if_pos rfl
theorem qz1 {α : Type} {a b : α} : (if (1 : Int32) = 0 then a else b) = b := if_neg (by decide)
theorem qT_all {C N C' N' : fj_N} (h : ∀ i, i < 12 → qT C N i) (hC : ∀ κ i j, 7 ≤ κ → κ ≤ 9 → C' κ i j = C κ i j) (hN : ∀ κ i j, 23 ≤ κ → κ ≤ 34 → N' κ i j = N κ i j) : ∀ i, i < 12 → qT C' N' i := fun i hi =>
  qT_cg (h i hi) (fun j => hC 7 i j (by omega) (by omega)) (fun j _ => hC 8 i j (by omega) (by omega)) (fun j _ => hC 9 i j (by omega) (by omega)) (fun κ h1 h2 _ _ => hN κ 0 i h1 h2) (fun j _ => hN 26 0 _ (by omega) (by omega)) (fun j _ => hN 28 0 _ (by omega) (by omega))
theorem qC_all {C N C' N' : fj_N} (h : ∀ c, c < 6 → qC C N c) (hC : ∀ κ i j, 10 ≤ κ → κ ≤ 11 → C' κ i j = C κ i j) (hN : ∀ κ i j, 35 ≤ κ → κ ≤ 37 → N' κ i j = N κ i j) : ∀ c, c < 6 → qC C' N' c := fun c hc =>
  qC_cg (h c hc) (fun j => hC 10 c j (by omega) (by omega)) (fun j _ => hC 11 c j (by omega) (by omega)) (hN 35 0 c (by omega) (by omega)) (hN 36 0 c (by omega) (by omega)) (fun j _ => hN 37 0 _ (by omega) (by omega))
theorem qA_cg {C N C' N' : fj_N} (h : qA C N) (hC : ∀ κ j, 1 ≤ κ → κ ≤ 3 → C' κ 0 j = C κ 0 j) (hN : ∀ κ j, κ = 21 ∨ κ = 22 ∨ κ = 38 → N' κ 0 j = N κ 0 j) : qA C' N' := by
  obtain ⟨a, b, c⟩ := h
  exact ⟨fun j hj => by rw [hC 1 j (by omega) (by omega), hN 21 j (by omega)]; exact a j hj, fun j hj => by rw [hC 2 j (by omega) (by omega), hN 22 j (by omega)]; exact b j hj, fun j hj => by rw [hC 3 j (by omega) (by omega), hN 38 j (by omega)]; exact c j hj⟩
theorem qS_cg {B : qB} {C N C' N' : fj_N} (h : qS B C N) (hC : ∀ j, C' 0 0 j = C 0 0 j) (hN : ∀ j, j ≤ 25 → N' 20 0 j = N 20 0 j) : qS B C' N' := by
  unfold qS
  simp only [hC, hN 18 (by omega), hN 19 (by omega), hN 20 (by omega), hN 21 (by omega), hN 22 (by omega), hN 23 (by omega), hN 24 (by omega), hN 25 (by omega)]
  exact h
theorem qh_there_cg {C C' : fj_N} {i : Nat} (h7 : ∀ i j, C' 7 i j = C 7 i j) (h10 : ∀ c j, C' 10 c j = C 10 c j) : qh_there C' i ↔ qh_there C i := by
  unfold qh_there qh_room qh_ints qh_alive qh_live
  simp only [h7, h10]
theorem qW_cg {C C' : fj_N} (h : qW C) (h7 : ∀ i j, C' 7 i j = C 7 i j) (h10 : ∀ c j, C' 10 c j = C 10 c j) : qW C' := fun i hi q => h i hi ((qh_there_cg h7 h10).mp q)
/-- the class's call, then the reference's, on memories that agree -/
def qP (B B' : qB) (f g : fj_M → Option (Int32 × fj_M)) : Prop := ∀ C N : fj_N, qR B C N → qW C → ∃ (v : Int32) (C' N' : fj_N), f (C, N) = some (v, (C', N)) ∧ g (C', N) = some (v, (C', N')) ∧ qR B' C' N' ∧ qW C'
theorem qP_same {B : qB} {f g : fj_M → Option (Int32 × fj_M)} (h : ∀ C N : fj_N, qR B C N → ∃ v, f (C, N) = some (v, (C, N)) ∧ g (C, N) = some (v, (C, N))) : qP B B f g := by
  intro C N hR hW
  obtain ⟨v, h1, h2⟩ := h C N hR
  exact ⟨v, C, N, h1, h2, hR, hW⟩
theorem qp_poke (B : qB) (a b : Int32) : qP B B (dm_16 a b) (dm_79 a b) := by
  intro C N hR hW
  rcases qx_ix a (n := 512) (by decide) with h | h | ⟨j, hj, rfl⟩
  · exact ⟨0, C, N, by simp only [dm_16, qg35_o (Or.inl h), Option.bind_some, ↓reduceIte, qz1], by simp only [dm_79, qg78_0_511_o (Or.inl h), Option.bind_some, ↓reduceIte, qz1], hR, hW⟩
  · exact ⟨0, C, N, by simp only [dm_16, qg35_o (Or.inr h), Option.bind_some, ↓reduceIte, qz1], by simp only [dm_79, qg78_0_511_o (Or.inr h), Option.bind_some, ↓reduceIte, qz1], hR, hW⟩
  · obtain ⟨hS, hA, hT, hC⟩ := hR
    refine ⟨C 1 0 j, fj_u1 C 1 0 j b, fj_u1 N 21 0 j b, ?_, ?_, ⟨?_, ?_, ?_, ?_⟩, ?_⟩
    · simp only [dm_16, qg35_i hj, Option.bind_some, ↓reduceIte, qz1, qx_cl (j := j) (show j ≤ 1000000 by omega), qx_neg (n := j) (show j ≤ 100000000 by omega), Nat.not_le.mpr hj, or_self]
    · simp only [dm_79, qg78_0_511_i (j := j) (by omega) (by omega), Option.bind_some, ↓reduceIte, qz1, qx_cl (j := j) (show j ≤ 1000000 by omega), qx_neg (n := j) (show j ≤ 100000000 by omega), Nat.not_le.mpr hj, or_self, hA.1 j hj]
    · exact qS_cg hS (fun j => qx_un (by omega)) (fun j _ => qx_un (by omega))
    · refine ⟨fun k hk => ?_, fun k hk => ?_, fun k hk => ?_⟩
      · rw [qx_u, qx_u]
        by_cases hkj : k = j
        · simp [hkj]
        · simp [hkj, hA.1 k hk]
      · rw [qx_un (by omega), qx_un (by omega)]; exact hA.2.1 k hk
      · rw [qx_un (by omega), qx_un (by omega)]; exact hA.2.2 k hk
    · exact qT_all hT (fun κ i j _ _ => qx_un (by omega)) (fun κ i j _ _ => qx_un (by omega))
    · exact qC_all hC (fun κ i j _ _ => qx_un (by omega)) (fun κ i j _ _ => qx_un (by omega))
    · exact qW_cg hW (fun i j => qx_un (by omega)) (fun i j => qx_un (by omega))
theorem qp_code (B : qB) (a : Int32) : qP B B (dm_17 a) (dm_80 a) := by
  refine qP_same (fun C N hR => ?_)
  rcases qx_ix a (n := 512) (by decide) with h | h | ⟨j, hj, rfl⟩
  · exact ⟨0, by simp only [dm_17, qg35_o (Or.inl h), Option.bind_some, ↓reduceIte, qz1], by simp only [dm_80, qg78_0_511_o (Or.inl h), Option.bind_some, ↓reduceIte, qz1]⟩
  · exact ⟨0, by simp only [dm_17, qg35_o (Or.inr h), Option.bind_some, ↓reduceIte, qz1], by simp only [dm_80, qg78_0_511_o (Or.inr h), Option.bind_some, ↓reduceIte, qz1]⟩
  · refine ⟨C 1 0 j, ?_, ?_⟩
    · simp only [dm_17, qg35_i hj, Option.bind_some, ↓reduceIte, qz1, qx_cl (j := j) (show j ≤ 1000000 by omega), qx_neg (n := j) (show j ≤ 100000000 by omega), Nat.not_le.mpr hj, or_self]
    · simp only [dm_80, qg78_0_511_i (j := j) (by omega) (by omega), Option.bind_some, ↓reduceIte, qz1, qx_cl (j := j) (show j ≤ 1000000 by omega), qx_neg (n := j) (show j ≤ 100000000 by omega), Nat.not_le.mpr hj, or_self, hR.2.1.1 j hj]
theorem qp_word (B : qB) (a b : Int32) : qP B B (dm_18 a b) (dm_81 a b) := by
  refine qP_same (fun C N hR => ?_)
  by_cases h0 : a < 0
  · exact ⟨0, by simp only [dm_18, if_pos h0, Option.bind_some, ↓reduceIte, qz1], by simp only [dm_81, dm_78, if_pos h0, Option.bind_some, ↓reduceIte, qz1]⟩
  by_cases h1 : 255 < a
  · exact ⟨0, by simp only [dm_18, if_neg h0, if_pos h1, Option.bind_some, ↓reduceIte, qz1], by simp only [dm_81, dm_78, if_neg h0, if_pos h1, Option.bind_some, ↓reduceIte, qz1]⟩
  · exact ⟨(b <<< ((8 : Int32) &&& 31)) ||| a, by simp only [dm_18, if_neg h0, if_neg h1], by simp only [dm_81, dm_78, if_neg h0, if_neg h1, Option.bind_some, ↓reduceIte, qz1]⟩
theorem qp_quantum (B : qB) (a : Int32) : qP B B (dm_20 a) (dm_86 a) := by
  intro C N hR hW
  by_cases h0 : a < 1
  · exact ⟨-2, C, N, by simp only [dm_20, if_pos h0, Option.bind_some, ↓reduceIte, qz1], by simp only [dm_86, dm_78, if_pos h0, Option.bind_some, ↓reduceIte, qz1], hR, hW⟩
  by_cases h1 : 50 < a
  · exact ⟨-2, C, N, by simp only [dm_20, if_neg h0, if_neg (Int32.not_le.mpr h1)], by simp only [dm_86, dm_78, if_neg h0, if_pos h1, Option.bind_some, ↓reduceIte, qz1], hR, hW⟩
  · obtain ⟨hS, hA, hT, hC⟩ := hR
    refine ⟨C 0 0 6, fj_u1 C 0 0 6 a, fj_u1 N 20 0 22 a, by simp only [dm_20, if_neg h0, if_pos (qx_not_lt h1)], by simp only [dm_86, dm_78, if_neg h0, if_neg h1, Option.bind_some, ↓reduceIte, qz1, hS.1.2.2.2.2.1], ⟨?_, ?_, ?_, ?_⟩, ?_⟩
    · unfold qS
      simp [qx_u]
      exact ⟨⟨hS.1.1, hS.1.2.1, hS.1.2.2.1, hS.1.2.2.2.1, hS.1.2.2.2.2.2.1, hS.1.2.2.2.2.2.2.1, hS.1.2.2.2.2.2.2.2⟩, hS.2.1, hS.2.2⟩
    · exact qA_cg hA (fun κ j _ _ => qx_un (by omega)) (fun κ j h => qx_un (by omega))
    · exact qT_all hT (fun κ i j _ _ => qx_un (by omega)) (fun κ i j _ _ => qx_un (by omega))
    · exact qC_all hC (fun κ i j _ _ => qx_un (by omega)) (fun κ i j _ _ => qx_un (by omega))
    · exact qW_cg hW (fun i j => qx_un (by omega)) (fun i j => qx_un (by omega))
theorem qp_latest (B : qB) (hb : B.2 = true) : qP B B dm_26 dm_113 := by
  refine qP_same (fun C N hR => ⟨C 0 0 7, rfl, ?_⟩)
  simp only [dm_113, hR.1.1.2.2.2.2.2.1 hb]
theorem qp_state (B : qB) (a : Int32) : qP B B (dm_27 a) (dm_115 a) := by
  refine qP_same (fun C N hR => ?_)
  rcases qx_ix a (n := 12) (by decide) with h | h | ⟨j, hj, rfl⟩
  · exact ⟨-1, by simp only [dm_27, qg37_o (Or.inl h), Option.bind_some, ↓reduceIte, qz1], by simp only [dm_115, qg114_o (Or.inl h), Option.bind_some, ↓reduceIte, qz1]⟩
  · exact ⟨-1, by simp only [dm_27, qg37_o (Or.inr h), Option.bind_some, ↓reduceIte, qz1], by simp only [dm_115, qg114_o (Or.inr h), Option.bind_some, ↓reduceIte, qz1]⟩
  · refine ⟨C 7 j 2, ?_, ?_⟩
    · simp only [dm_27, qg37_i hj, Option.bind_some, ↓reduceIte, qz1, qx_cl (j := j) (show j ≤ 1000000 by omega), qx_neg (n := j) (show j ≤ 100000000 by omega), Nat.not_le.mpr hj, or_self]
    · simp only [dm_115, qg114_i hj, Option.bind_some, ↓reduceIte, qz1, qx_cl (j := j) (show j ≤ 1000000 by omega), qx_neg (n := j) (show j ≤ 100000000 by omega), Nat.not_le.mpr hj, or_self, (hR.2.2.1 j hj).1.1]
theorem qp_about (B : qB) (a b : Int32) : qP B B (dm_28 a b) (dm_116 a b) := by
  refine qP_same (fun C N hR => ?_)
  rcases qx_ix a (n := 12) (by decide) with h | h | ⟨j, hj, rfl⟩
  · exact ⟨-1000000001, by simp only [dm_28, qg37_o (Or.inl h), Option.bind_some, ↓reduceIte, qz1], by simp only [dm_116, qg114_o (Or.inl h), Option.bind_some, ↓reduceIte, qz1]⟩
  · exact ⟨-1000000001, by simp only [dm_28, qg37_o (Or.inr h), Option.bind_some, ↓reduceIte, qz1], by simp only [dm_116, qg114_o (Or.inr h), Option.bind_some, ↓reduceIte, qz1]⟩
  · obtain ⟨h1, h2, h3, h4, h5, h6, h7, h8⟩ := (hR.2.2.1 j hj).1
    simp only [dm_28, dm_116, qg37_i hj, qg114_i hj, Option.bind_some, ↓reduceIte, qz1, qx_cl (j := j) (show j ≤ 1000000 by omega), qx_neg (n := j) (show j ≤ 100000000 by omega), Nat.not_le.mpr hj, or_self, h2, h3, h4, h5, h6, h7, h8]
    by_cases b0 : b = 0
    · exact ⟨C 7 j 3, by rw [if_pos b0], by rw [if_pos b0]⟩
    by_cases b1 : b = 1
    · exact ⟨C 7 j 4, by rw [if_neg b0, if_pos b1], by rw [if_neg b0, if_pos b1]⟩
    by_cases b2 : b = 2
    · exact ⟨C 7 j 5, by rw [if_neg b0, if_neg b1, if_pos b2], by rw [if_neg b0, if_neg b1, if_pos b2]⟩
    by_cases b3 : b = 3
    · exact ⟨C 7 j 6, by rw [if_neg b0, if_neg b1, if_neg b2, if_pos b3], by rw [if_neg b0, if_neg b1, if_neg b2, if_pos b3]⟩
    by_cases b4 : b = 4
    · exact ⟨C 7 j 7, by rw [if_neg b0, if_neg b1, if_neg b2, if_neg b3, if_pos b4], by rw [if_neg b0, if_neg b1, if_neg b2, if_neg b3, if_pos b4]⟩
    by_cases b5 : b = 5
    · refine ⟨if C 7 j 2 = 5 then C 7 j 8 else 0, ?_, by rw [if_neg b0, if_neg b1, if_neg b2, if_neg b3, if_neg b4, if_pos b5]⟩
      rw [if_neg b0, if_neg b1, if_neg b2, if_neg b3, if_neg b4, if_pos b5]
      split <;> rfl
    by_cases b6 : b = 6
    · exact ⟨C 7 j 9, by rw [if_neg b0, if_neg b1, if_neg b2, if_neg b3, if_neg b4, if_neg b5, if_pos b6], by rw [if_neg b0, if_neg b1, if_neg b2, if_neg b3, if_neg b4, if_neg b5, if_pos b6]⟩
    · exact ⟨-1000000001, by rw [if_neg b0, if_neg b1, if_neg b2, if_neg b3, if_neg b4, if_neg b5, if_neg b6], by rw [if_neg b0, if_neg b1, if_neg b2, if_neg b3, if_neg b4, if_neg b5, if_neg b6]⟩
theorem qp_held (B : qB) (a : Int32) : qP B B (dm_30 a) (dm_118 a) := by
  refine qP_same (fun C N hR => ?_)
  rcases qx_ix a (n := 6) (by decide) with h | h | ⟨j, hj, rfl⟩
  · exact ⟨-1, by simp only [dm_30, qg38_o (Or.inl h), Option.bind_some, ↓reduceIte, qz1], by simp only [dm_118, qg87_o (Or.inl h), Option.bind_some, ↓reduceIte, qz1]⟩
  · exact ⟨-1, by simp only [dm_30, qg38_o (Or.inr h), Option.bind_some, ↓reduceIte, qz1], by simp only [dm_118, qg87_o (Or.inr h), Option.bind_some, ↓reduceIte, qz1]⟩
  · refine ⟨C 10 j 1, ?_, ?_⟩
    · simp only [dm_30, qg38_i hj, Option.bind_some, ↓reduceIte, qz1, qx_cl (j := j) (show j ≤ 1000000 by omega), qx_neg (n := j) (show j ≤ 100000000 by omega), Nat.not_le.mpr hj, or_self]
    · simp only [dm_118, qg87_i hj, Option.bind_some, ↓reduceIte, qz1, qx_cl (j := j) (show j ≤ 1000000 by omega), qx_neg (n := j) (show j ≤ 100000000 by omega), Nat.not_le.mpr hj, or_self, (hR.2.2.2 j hj).1]
theorem qp_memory (B : qB) (a : Int32) : qP B B (dm_32 a) (dm_120 a) := by
  refine qP_same (fun C N hR => ?_)
  rcases qx_ix a (n := 64) (by decide) with h | h | ⟨j, hj, rfl⟩
  · exact ⟨0, by simp only [dm_32, qg36_o (Or.inl h), Option.bind_some, ↓reduceIte, qz1], by simp only [dm_120, qg78_0_63_o (Or.inl h), Option.bind_some, ↓reduceIte, qz1]⟩
  · exact ⟨0, by simp only [dm_32, qg36_o (Or.inr h), Option.bind_some, ↓reduceIte, qz1], by simp only [dm_120, qg78_0_63_o (Or.inr h), Option.bind_some, ↓reduceIte, qz1]⟩
  · refine ⟨C 2 0 j, ?_, ?_⟩
    · simp only [dm_32, qg36_i hj, Option.bind_some, ↓reduceIte, qz1, qx_cl (j := j) (show j ≤ 1000000 by omega), qx_neg (n := j) (show j ≤ 100000000 by omega), Nat.not_le.mpr hj, or_self]
    · simp only [dm_120, qg78_0_63_i (j := j) (by omega) (by omega), Option.bind_some, ↓reduceIte, qz1, qx_cl (j := j) (show j ≤ 1000000 by omega), qx_neg (n := j) (show j ≤ 100000000 by omega), Nat.not_le.mpr hj, or_self, hR.2.1.2.1 j hj]
theorem qp_record (B : qB) (a : Int32) : qP B B (dm_33 a) (dm_121 a) := by
  refine qP_same (fun C N hR => ?_)
  have hp : N 20 0 18 = C 0 0 11 := hR.1.1.1
  rcases qx_ix a (n := 300) (by decide) with h | h | ⟨j, hj, rfl⟩
  · exact ⟨0, by simp only [dm_33, if_pos h], by simp only [dm_121, qg78_0_299_o (Or.inl h), Option.bind_some, ↓reduceIte, qz1]⟩
  · refine ⟨0, ?_, by simp only [dm_121, qg78_0_299_o (Or.inr h), Option.bind_some, ↓reduceIte, qz1]⟩
    simp only [dm_33, if_neg h.1, if_pos (show (300 : Int32) ≤ a from h.2)]
    split <;> rfl
  · by_cases h1 : C 0 0 11 ≤ nI j
    · exact ⟨0, by simp only [dm_33, if_neg (qx_neg (n := j) (by omega)), if_pos h1, Option.bind_some, ↓reduceIte, qz1], by simp only [dm_121, qg78_0_299_i (j := j) (by omega) (by omega), Option.bind_some, ↓reduceIte, qz1, hp, if_pos h1, Option.bind_some, ↓reduceIte, qz1]⟩
    · refine ⟨C 3 0 j, ?_, ?_⟩
      · have h2 : ¬ (300 : Int32) ≤ nI j := fun q => by
          have := (qx_le (a := 300) (b := j) (by omega) (by omega)).mp q
          omega
        simp only [dm_33, if_neg h1, if_neg h2, qx_cl (j := j) (show j ≤ 1000000 by omega), qx_neg (n := j) (show j ≤ 100000000 by omega), Nat.not_le.mpr hj, or_self, ↓reduceIte]
      · simp only [dm_121, qg78_0_299_i (j := j) (by omega) (by omega), Option.bind_some, ↓reduceIte, qz1, hp, if_neg h1, qx_cl (j := j) (show j ≤ 1000000 by omega), qx_neg (n := j) (show j ≤ 100000000 by omega), Nat.not_le.mpr hj, or_self, hR.2.1.2.2 j hj]
