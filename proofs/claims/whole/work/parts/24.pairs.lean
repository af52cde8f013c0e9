/-! PAIRS OF CALLS ON CHANNELS AND STACKS -/
theorem qx_hi {x : Int32} {d : Nat} (hd : d ≤ 100) (h0 : ¬ x < 0) : nI d - 1 < x ↔ nI d ≤ x := by
  rcases Nat.eq_zero_or_pos d with rfl | hp
  · have e : nI 0 - 1 = (-1 : Int32) := by decide
    rw [e]
    constructor
    · intro _
      exact qx_not_lt h0
    · intro _
      have h1 := qx_not_lt h0
      rw [Int32.le_iff_toInt_le] at h1
      rw [Int32.lt_iff_toInt_lt]
      have e1 : (0 : Int32).toInt = 0 := by decide
      have e2 : (-1 : Int32).toInt = -1 := by decide
      omega
  · obtain ⟨k, rfl⟩ : ∃ k, d = k + 1 := ⟨d - 1, by omega⟩
    rw [nI_pred]
    exact qx_pred (n := k + 1) (by omega) (by omega)
theorem qp_put (B : qB) (a x : Int32) : qP B B (dm_22 a x) (dm_91 a x) := by
  intro C N hR hW
  rcases qx_ix a (n := 6) (by decide) with h | h | ⟨c, hc, rfl⟩
  · exact ⟨-1, C, N, by simp only [dm_22, qg38_o (Or.inl h), Option.bind_some, ↓reduceIte, qz1], by simp only [dm_91, qg87_o (Or.inl h), Option.bind_some, ↓reduceIte, qz1], hR, hW⟩
  · exact ⟨-1, C, N, by simp only [dm_22, qg38_o (Or.inr h), Option.bind_some, ↓reduceIte, qz1], by simp only [dm_91, qg87_o (Or.inr h), Option.bind_some, ↓reduceIte, qz1], hR, hW⟩
  · obtain ⟨a1, a2, n, z, g1, g2, g3, g4, g5, g6⟩ := hR.2.2.2 c hc
    have hm : ¬ (6 : Int32) ≤ nI c := fun q => by
      have := (qx_le (a := 6) (b := c) (by omega) (by omega)).mp q
      omega
    by_cases hnz : n = z
    · subst hnz
      have h1 : ¬ qh_room (C, N).1 (nI c) := fun q => by
        have := q.2.2
        rw [qx_cl (by omega)] at this
        exact this (by rw [show (C, N).1 = C from rfl, g4, g5]; exact Int32.le_refl _)
      refine ⟨-4, C, N, ?_, ?_, hR, hW⟩
      · simp only [dm_22, qg38_i hc, Option.bind_some, ↓reduceIte, qz1, qk_room0 h1]
      · simp only [dm_91, qg87_i hc, Option.bind_some, ↓reduceIte, qz1, qx_cl (j := c) (show c ≤ 1000000 by omega), qx_neg (n := c) (show c ≤ 100000000 by omega), Nat.not_le.mpr hc, or_self, a1, a2, g4, g5]
    · have h1 : qh_room (C, N).1 (nI c) := ⟨qx_neg (by omega), hm, by
        rw [qx_cl (by omega), show (C, N).1 = C from rfl, g4, g5]
        intro q
        have := (qx_le (a := z) (b := n) (by omega) (by omega)).mp q
        omega⟩
      have hR1 := qR_comes x hR hc g4 g5 (by omega) g3
      obtain ⟨hR2, hW2⟩ := qw_R hR1
      have hne : ¬ nI n = nI z := fun q => hnz ((qx_eq (by omega) (by omega)).mp q)
      have e1 : qwk (fj_u1 (fj_u1 C 10 c 1 (nI (n + 1))) 11 c n x) 12 10 c 1 = nI (n + 1) := by
        rw [qwk_n (fun q => by omega), qx_un (by omega), qx_us]
      have e2 : N 36 0 c = nI n := a1.trans g4
      have e3 : N 35 0 c = nI z := a2.trans g5
      refine ⟨nI (n + 1), _, _, ?_, ?_, hR2, hW2⟩
      · simp only [dm_22, qg38_i hc, Option.bind_some, ↓reduceIte, qz1, qk_room1 h1, qx_cl (j := c) (show c ≤ 1000000 by omega), qx_neg (n := c) (show c ≤ 100000000 by omega), Nat.not_le.mpr hc, or_self, qk_append (M := (C, N)) g4 (show n < 8 by omega), qk_wake, e1]
      · simp only [dm_91, qg87_i hc, Option.bind_some, ↓reduceIte, qz1, qx_cl (j := c) (show c ≤ 1000000 by omega), qx_neg (n := c) (show c ≤ 100000000 by omega), Nat.not_le.mpr hc, or_self, e2, e3, if_neg hne, qn_comes hc e2 (show n < 8 by omega), qn_wake _ hR1.2.2.1 hR1.2.2.2, qx_us]
theorem qp_take (B : qB) (a : Int32) : qP B B (dm_23 a) (dm_92 a) := by
  intro C N hR hW
  rcases qx_ix a (n := 6) (by decide) with h | h | ⟨c, hc, rfl⟩
  · exact ⟨0, C, N, by simp only [dm_23, qk_ints0 (M := (C, N)) (x := a) (fun q => q.1 h), Option.bind_some, ↓reduceIte, qz1], by simp only [dm_92, qg87_o (Or.inl h), Option.bind_some, ↓reduceIte, qz1], hR, hW⟩
  · exact ⟨0, C, N, by simp only [dm_23, qk_ints0 (M := (C, N)) (x := a) (fun q => q.2.1 h.2), Option.bind_some, ↓reduceIte, qz1], by simp only [dm_92, qg87_o (Or.inr h), Option.bind_some, ↓reduceIte, qz1], hR, hW⟩
  · obtain ⟨a1, a2, n, z, g1, g2, g3, g4, g5, g6⟩ := hR.2.2.2 c hc
    have hm : ¬ (6 : Int32) ≤ nI c := fun q => by
      have := (qx_le (a := 6) (b := c) (by omega) (by omega)).mp q
      omega
    have e2 : N 36 0 c = nI n := a1.trans g4
    rcases Nat.eq_zero_or_pos n with rfl | hp
    · have h1 : ¬ qh_ints (C, N).1 (nI c) := fun q => by
        have := q.2.2
        rw [qx_cl (by omega)] at this
        exact this (by rw [show (C, N).1 = C from rfl, g4]; decide)
      refine ⟨0, C, N, ?_, ?_, hR, hW⟩
      · simp only [dm_23, qk_ints0 h1, Option.bind_some, ↓reduceIte, qz1]
      · simp only [dm_92, qg87_i hc, Option.bind_some, ↓reduceIte, qz1, qx_cl (j := c) (show c ≤ 1000000 by omega), qx_neg (n := c) (show c ≤ 100000000 by omega), Nat.not_le.mpr hc, or_self, e2, if_pos (show nI 0 = 0 from rfl)]
    · obtain ⟨k, rfl⟩ : ∃ k, n = k + 1 := ⟨n - 1, by omega⟩
      have h1 : qh_ints (C, N).1 (nI c) := ⟨qx_neg (by omega), hm, by
        rw [qx_cl (by omega), show (C, N).1 = C from rfl, g4]
        exact nI_nle (by omega) (by omega)⟩
      obtain ⟨hR1, e0⟩ := qR_goes hR hc g4 (by omega)
      obtain ⟨hR2, hW2⟩ := qw_R hR1
      have hne : ¬ nI (k + 1) = 0 := nI_ne0 (by omega) (by omega)
      refine ⟨C 11 c 0, _, _, ?_, ?_, hR2, hW2⟩
      · simp only [dm_23, qk_ints1 h1, Option.bind_some, ↓reduceIte, qz1, qx_cl (j := c) (show c ≤ 1000000 by omega), qx_neg (n := c) (show c ≤ 100000000 by omega), Nat.not_le.mpr hc, or_self, qk_remove g4 (show k < 8 by omega), qk_wake]
      · simp only [dm_92, qg87_i hc, Option.bind_some, ↓reduceIte, qz1, qx_cl (j := c) (show c ≤ 1000000 by omega), qx_neg (n := c) (show c ≤ 100000000 by omega), Nat.not_le.mpr hc, or_self, e2, if_neg hne, qn_goes hc e2 (show k < 8 by omega), qn_wake _ hR1.2.2.1 hR1.2.2.2, e0]
theorem qp_size (B : qB) (a b : Int32) : qP B B (dm_21 a b) (dm_88 a b) := by
  intro C N hR hW
  rcases qx_ix a (n := 6) (by decide) with h | h | ⟨c, hc, rfl⟩
  · exact ⟨-1, C, N, by simp only [dm_21, qg38_o (Or.inl h), Option.bind_some, ↓reduceIte, qz1], by simp only [dm_88, qg87_o (Or.inl h), Option.bind_some, ↓reduceIte, qz1], hR, hW⟩
  · exact ⟨-1, C, N, by simp only [dm_21, qg38_o (Or.inr h), Option.bind_some, ↓reduceIte, qz1], by simp only [dm_88, qg87_o (Or.inr h), Option.bind_some, ↓reduceIte, qz1], hR, hW⟩
  · obtain ⟨a1, a2, n, z, g1, g2, g3, g4, g5, g6⟩ := hR.2.2.2 c hc
    have e2 : N 36 0 c = nI n := a1.trans g4
    have e3 : N 35 0 c = nI z := a2.trans g5
    by_cases h1 : b < 1
    · exact ⟨-2, C, N, by simp only [dm_21, qg38_i hc, Option.bind_some, ↓reduceIte, qz1, qx_cl (j := c) (show c ≤ 1000000 by omega), qx_neg (n := c) (show c ≤ 100000000 by omega), Nat.not_le.mpr hc, or_self, if_pos h1], by simp only [dm_88, qg87_i hc, Option.bind_some, ↓reduceIte, qz1, qg78_1_8_o (Or.inl h1)], hR, hW⟩
    by_cases h8 : 8 < b
    · exact ⟨-2, C, N, by simp only [dm_21, qg38_i hc, Option.bind_some, ↓reduceIte, qz1, qx_cl (j := c) (show c ≤ 1000000 by omega), qx_neg (n := c) (show c ≤ 100000000 by omega), Nat.not_le.mpr hc, or_self, if_neg h1, if_pos h8], by simp only [dm_88, qg87_i hc, Option.bind_some, ↓reduceIte, qz1, qg78_1_8_o (Or.inr h8)], hR, hW⟩
    have h0 : ¬ b < 0 := fun q => h1 (by
      rw [Int32.lt_iff_toInt_lt] at q ⊢
      have e1 : (0 : Int32).toInt = 0 := by decide
      have e2 : (1 : Int32).toInt = 1 := by decide
      omega)
    obtain ⟨w, hw9, rfl⟩ := qx_mid (x := b) (n := 9) (by decide) h0 (fun q => h8 ((qx_pred (n := 9) (by omega) (by omega)).mpr q))
    have hw1 : 1 ≤ w := by
      rcases Nat.lt_or_ge w 1 with q | q
      · exact absurd ((qx_lt (a := w) (b := 1) (by omega) (by omega)).mpr q) h1
      · exact q
    by_cases hn : n ≤ w
    · have h3 : nI n ≤ nI w := (qx_le (by omega) (by omega)).mpr hn
      have hR1 := qR_size hR hc g4 hn hw1 (by omega)
      obtain ⟨hR2, hW2⟩ := qw_R hR1
      refine ⟨nI z, _, _, ?_, ?_, hR2, hW2⟩
      · simp only [dm_21, qg38_i hc, Option.bind_some, ↓reduceIte, qz1, qx_cl (j := c) (show c ≤ 1000000 by omega), qx_neg (n := c) (show c ≤ 100000000 by omega), Nat.not_le.mpr hc, or_self, if_neg h1, if_neg h8, g4, g5, if_pos h3, qk_wake]
      · simp only [dm_88, qg87_i hc, Option.bind_some, ↓reduceIte, qz1, qg78_1_8_i (j := w) hw1 (show w ≤ 8 by omega), qx_cl (j := c) (show c ≤ 1000000 by omega), qx_neg (n := c) (show c ≤ 100000000 by omega), Nat.not_le.mpr hc, or_self, e2, e3, if_pos h3, qn_wake _ hR1.2.2.1 hR1.2.2.2]
    · have h3 : ¬ nI n ≤ nI w := fun q => hn ((qx_le (by omega) (by omega)).mp q)
      exact ⟨-2, C, N, by simp only [dm_21, qg38_i hc, Option.bind_some, ↓reduceIte, qz1, qx_cl (j := c) (show c ≤ 1000000 by omega), qx_neg (n := c) (show c ≤ 100000000 by omega), Nat.not_le.mpr hc, or_self, if_neg h1, if_neg h8, g4, if_neg h3], by simp only [dm_88, qg87_i hc, Option.bind_some, ↓reduceIte, qz1, qg78_1_8_i (j := w) hw1 (show w ≤ 8 by omega), qx_cl (j := c) (show c ≤ 1000000 by omega), qx_neg (n := c) (show c ≤ 100000000 by omega), Nat.not_le.mpr hc, or_self, e2, if_neg h3], hR, hW⟩
