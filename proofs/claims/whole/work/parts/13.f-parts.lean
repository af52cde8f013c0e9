/-! METHODS AS FUNCTIONS: by program -/
/-- X0_append -/
def dm_0 (a0 : Nat) (a1 : Int32) (M : fj_M) : Option fj_M := (if 8 ≤ (M.1 10 a0 1) then some M else (if (M.1 10 a0 1) < 0 ∨ 8 ≤ (M.1 10 a0 1).toNatClampNeg then none else some ((fj_u1 (fj_u1 M.1 10 a0 1 ((M.1 10 a0 1) + 1)) 11 a0 ((M.1 10 a0 1).toNatClampNeg) a1), M.2)))
set_option maxRecDepth 40000 in
theorem de_0 (X : fj_X) (a0 : Nat) (a1 : Int32) (M : fj_M) (r : fj_M) (h : dm_0 a0 a1 M = some r) : fj_ev X (0, 0, [some (.inr (10, a0)), some (.inl a1)], [], M) (none, r) := by
    unfold dm_0 at h
    refine fj_blk 3 (0, 6, [some (.inr (10, a0)), some (.inl a1)], [(.inl 8), (.inl (M.1 10 a0 1))], M) rfl ?_
    by_cases hc1 : 8 ≤ (M.1 10 a0 1)
    · rw [if_pos hc1] at h
      refine fj_bt rfl (decide_eq_true hc1) ?_
      cases h
      exact fj_rv rfl rfl
    · rw [if_neg hc1] at h
      refine fj_bf rfl (decide_eq_false hc1) ?_
      refine fj_blk 10 (0, 25, [some (.inr (10, a0)), some (.inl a1)], [(.inl a1), (.inl (M.1 10 a0 1)), (.inr (11, a0))], ((fj_u1 M.1 10 a0 1 ((M.1 10 a0 1) + 1)), M.2)) rfl ?_
      by_cases hc2 : (M.1 10 a0 1) < 0 ∨ 8 ≤ (M.1 10 a0 1).toNatClampNeg
      · rw [if_pos hc2] at h
        cases h
      rw [if_neg hc2] at h
      refine fj_ast rfl rfl hc2 ?_
      cases h
      exact fj_rv rfl rfl
def dm_1_18  : Nat → Nat → Int32 → Int32 → fj_M → Option (Int32 × fj_M)
  | 0, _, _, _, _ => none
  | n + 1, a0, a1, a2, M => (if (M.1 10 a0 1) ≤ a2 then some (a1, ((fj_u1 M.1 10 a0 1 ((M.1 10 a0 1) - 1)), M.2)) else (if 8 ≤ a2 then some (a1, ((fj_u1 M.1 10 a0 1 ((M.1 10 a0 1) - 1)), M.2)) else (if a2 < 0 ∨ 8 ≤ a2.toNatClampNeg then none else (if (a2 - 1) < 0 ∨ 8 ≤ (a2 - 1).toNatClampNeg then none else dm_1_18 n a0 a1 (a2 + 1) ((fj_u1 M.1 11 a0 ((a2 - 1).toNatClampNeg) (M.1 11 a0 a2.toNatClampNeg)), M.2)))))
set_option maxRecDepth 40000 in
theorem de_1_18 (X : fj_X) : ∀ (n : Nat) (a0 : Nat) (a1 : Int32) (a2 : Int32) (M : fj_M) (r : (Int32 × fj_M)), dm_1_18 n a0 a1 a2 M = some r → fj_ev X (1, 18, [some (.inr (10, a0)), some (.inl a1), some (.inl a2)], [], M) (some r.1, r.2)
  | 0, _, _, _, _, r, h => by cases h
  | n + 1, a0, a1, a2, M, r, h => by
    unfold dm_1_18 at h
    refine fj_blk 3 (1, 23, [some (.inr (10, a0)), some (.inl a1), some (.inl a2)], [(.inl (M.1 10 a0 1)), (.inl a2)], M) rfl ?_
    by_cases hc1 : (M.1 10 a0 1) ≤ a2
    · rw [if_pos hc1] at h
      refine fj_bt rfl (decide_eq_true hc1) ?_
      refine fj_blk 7 (1, 63, [some (.inr (10, a0)), some (.inl a1), some (.inl a2)], [(.inl a1)], ((fj_u1 M.1 10 a0 1 ((M.1 10 a0 1) - 1)), M.2)) rfl ?_
      cases h
      exact fj_ri rfl rfl
    · rw [if_neg hc1] at h
      refine fj_bf rfl (decide_eq_false hc1) ?_
      refine fj_blk 2 (1, 29, [some (.inr (10, a0)), some (.inl a1), some (.inl a2)], [(.inl 8), (.inl a2)], M) rfl ?_
      by_cases hc2 : 8 ≤ a2
      · rw [if_pos hc2] at h
        refine fj_bt rfl (decide_eq_true hc2) ?_
        refine fj_blk 7 (1, 63, [some (.inr (10, a0)), some (.inl a1), some (.inl a2)], [(.inl a1)], ((fj_u1 M.1 10 a0 1 ((M.1 10 a0 1) - 1)), M.2)) rfl ?_
        cases h
        exact fj_ri rfl rfl
      · rw [if_neg hc2] at h
        refine fj_bf rfl (decide_eq_false hc2) ?_
        refine fj_blk 8 (1, 44, [some (.inr (10, a0)), some (.inl a1), some (.inl a2)], [(.inl a2), (.inr (11, a0)), (.inl (a2 - 1)), (.inr (11, a0))], M) rfl ?_
        by_cases hc3 : a2 < 0 ∨ 8 ≤ a2.toNatClampNeg
        · rw [if_pos hc3] at h
          cases h
        rw [if_neg hc3] at h
        refine fj_ald rfl rfl hc3 ?_
        by_cases hc4 : (a2 - 1) < 0 ∨ 8 ≤ (a2 - 1).toNatClampNeg
        · rw [if_pos hc4] at h
          cases h
        rw [if_neg hc4] at h
        refine fj_ast rfl rfl hc4 ?_
        refine fj_blk 2 (1, 18, [some (.inr (10, a0)), some (.inl a1), some (.inl (a2 + 1))], [], ((fj_u1 M.1 11 a0 ((a2 - 1).toNatClampNeg) (M.1 11 a0 a2.toNatClampNeg)), M.2)) rfl ?_
        exact de_1_18 X n a0 a1 (a2 + 1) ((fj_u1 M.1 11 a0 ((a2 - 1).toNatClampNeg) (M.1 11 a0 a2.toNatClampNeg)), M.2) r h
/-- X0_removeFirst -/
def dm_1 (a0 : Nat) (M : fj_M) : Option (Int32 × fj_M) := (if (M.1 10 a0 1) = 0 then some (0, M) else dm_1_18 40 a0 (M.1 11 a0 0) 1 M)
set_option maxRecDepth 40000 in
theorem de_1 (X : fj_X) (a0 : Nat) (M : fj_M) (r : (Int32 × fj_M)) (h : dm_1 a0 M = some r) : fj_ev X (1, 0, [some (.inr (10, a0)), none, none], [], M) (some r.1, r.2) := by
    unfold dm_1 at h
    refine fj_blk 2 (1, 4, [some (.inr (10, a0)), none, none], [(.inl (M.1 10 a0 1))], M) rfl ?_
    by_cases hc1 : (M.1 10 a0 1) = 0
    · rw [if_pos hc1] at h
      refine fj_bf rfl (fj_nf hc1) ?_
      refine fj_blk 1 (1, 8, [some (.inr (10, a0)), none, none], [(.inl 0)], M) rfl ?_
      cases h
      exact fj_ri rfl rfl
    · rw [if_neg hc1] at h
      refine fj_bt rfl (fj_nt hc1) ?_
      refine fj_blk 3 (1, 14, [some (.inr (10, a0)), none, none], [(.inl 0), (.inr (11, a0))], M) rfl ?_
      refine fj_ald rfl rfl (by decide) ?_
      refine fj_blk 3 (1, 18, [some (.inr (10, a0)), some (.inl (M.1 11 a0 0)), some (.inl 1)], [], M) rfl ?_
      exact de_1_18 X 40 a0 (M.1 11 a0 0) 1 M r h
/-- X2_isOne -/
def dm_2 (a0 : Int32) (M : fj_M) : Option (Int32 × fj_M) := (if a0 < 0 then some (0, M) else (if 45 < a0 then some (0, M) else some (1, M)))
set_option maxRecDepth 40000 in
theorem de_2 (X : fj_X) (a0 : Int32) (M : fj_M) (r : (Int32 × fj_M)) (h : dm_2 a0 M = some r) : fj_ev X (2, 0, [some (.inl a0)], [], M) (some r.1, r.2) := by
    unfold dm_2 at h
    refine fj_blk 1 (2, 1, [some (.inl a0)], [(.inl a0)], M) rfl ?_
    by_cases hc1 : a0 < 0
    · rw [if_pos hc1] at h
      refine fj_bt rfl (decide_eq_true hc1) ?_
      refine fj_blk 1 (2, 15, [some (.inl a0)], [(.inl 0)], M) rfl ?_
      cases h
      exact fj_rz rfl rfl (Or.inl rfl)
    · rw [if_neg hc1] at h
      refine fj_bf rfl (decide_eq_false hc1) ?_
      refine fj_blk 2 (2, 7, [some (.inl a0)], [(.inl 45), (.inl a0)], M) rfl ?_
      by_cases hc2 : 45 < a0
      · rw [if_pos hc2] at h
        refine fj_bt rfl (decide_eq_true hc2) ?_
        refine fj_blk 1 (2, 15, [some (.inl a0)], [(.inl 0)], M) rfl ?_
        cases h
        exact fj_rz rfl rfl (Or.inl rfl)
      · rw [if_neg hc2] at h
        refine fj_bf rfl (decide_eq_false hc2) ?_
        refine fj_blk 2 (2, 15, [some (.inl a0)], [(.inl 1)], M) rfl ?_
        cases h
        exact fj_rz rfl rfl (Or.inr rfl)
def dm_3_12  (a0 : Int32) (M : fj_M) : Option (Int32 × fj_M) := (if a0 = 44 then some (1, M) else some (0, M))
set_option maxRecDepth 40000 in
theorem de_3_12 (X : fj_X) (a0 : Int32) (M : fj_M) (r : (Int32 × fj_M)) (h : dm_3_12 a0 M = some r) : fj_ev X (3, 12, [some (.inl a0)], [], M) (some r.1, r.2) := by
    unfold dm_3_12 at h
    refine fj_blk 2 (3, 15, [some (.inl a0)], [(.inl 44), (.inl a0)], M) rfl ?_
    by_cases hc1 : a0 = 44
    · rw [if_pos hc1] at h
      refine fj_bf rfl (fj_nf hc1) ?_
      refine fj_blk 2 (3, 23, [some (.inl a0)], [(.inl 1)], M) rfl ?_
      cases h
      exact fj_rz rfl rfl (Or.inr rfl)
    · rw [if_neg hc1] at h
      refine fj_bt rfl (fj_nt hc1) ?_
      refine fj_blk 1 (3, 23, [some (.inl a0)], [(.inl 0)], M) rfl ?_
      cases h
      exact fj_rz rfl rfl (Or.inl rfl)
/-- X2_isOfChannel -/
def dm_3 (a0 : Int32) (M : fj_M) : Option (Int32 × fj_M) := (if a0 < 31 then dm_3_12 a0 M else (if a0 ≤ 35 then some (1, M) else dm_3_12 a0 M))
set_option maxRecDepth 40000 in
theorem de_3 (X : fj_X) (a0 : Int32) (M : fj_M) (r : (Int32 × fj_M)) (h : dm_3 a0 M = some r) : fj_ev X (3, 0, [some (.inl a0)], [], M) (some r.1, r.2) := by
    unfold dm_3 at h
    refine fj_blk 2 (3, 3, [some (.inl a0)], [(.inl 31), (.inl a0)], M) rfl ?_
    by_cases hc1 : a0 < 31
    · rw [if_pos hc1] at h
      refine fj_bt rfl (decide_eq_true hc1) ?_
      exact de_3_12 X a0 M r h
    · rw [if_neg hc1] at h
      refine fj_bf rfl (decide_eq_false hc1) ?_
      refine fj_blk 2 (3, 9, [some (.inl a0)], [(.inl 35), (.inl a0)], M) rfl ?_
      by_cases hc2 : a0 ≤ 35
      · rw [if_pos hc2] at h
        refine fj_bt rfl (decide_eq_true hc2) ?_
        refine fj_blk 2 (3, 23, [some (.inl a0)], [(.inl 1)], M) rfl ?_
        cases h
        exact fj_rz rfl rfl (Or.inr rfl)
      · rw [if_neg hc2] at h
        refine fj_bf rfl (decide_eq_false hc2) ?_
        exact de_3_12 X a0 M r h
/-- X2_takenBy -/
def dm_4 (a0 : Int32) (M : fj_M) : Option (Int32 × fj_M) := (if a0 < 0 then some (0, M) else (if 46 ≤ a0 then some (0, M) else (if a0 < 0 ∨ 46 ≤ a0.toNatClampNeg then none else some (fj_tk a0.toNatClampNeg, M))))
set_option maxRecDepth 40000 in
theorem de_4 (X : fj_X) (a0 : Int32) (M : fj_M) (r : (Int32 × fj_M)) (h : dm_4 a0 M = some r) : fj_ev X (4, 0, [some (.inl a0)], [], M) (some r.1, r.2) := by
    unfold dm_4 at h
    refine fj_blk 1 (4, 1, [some (.inl a0)], [(.inl a0)], M) rfl ?_
    by_cases hc1 : a0 < 0
    · rw [if_pos hc1] at h
      refine fj_bt rfl (decide_eq_true hc1) ?_
      refine fj_blk 1 (4, 21, [some (.inl a0)], [(.inl 0)], M) rfl ?_
      cases h
      exact fj_ri rfl rfl
    · rw [if_neg hc1] at h
      refine fj_bf rfl (decide_eq_false hc1) ?_
      refine fj_blk 3 (4, 9, [some (.inl a0)], [(.inl 46), (.inl a0)], M) rfl ?_
      by_cases hc2 : 46 ≤ a0
      · rw [if_pos hc2] at h
        refine fj_bt rfl (decide_eq_true hc2) ?_
        refine fj_blk 1 (4, 21, [some (.inl a0)], [(.inl 0)], M) rfl ?_
        cases h
        exact fj_ri rfl rfl
      · rw [if_neg hc2] at h
        refine fj_bf rfl (decide_eq_false hc2) ?_
        refine fj_blk 2 (4, 16, [some (.inl a0)], [(.inl a0), (.inr (40, 0))], M) rfl ?_
        by_cases hc3 : a0 < 0 ∨ 46 ≤ a0.toNatClampNeg
        · rw [if_pos hc3] at h
          cases h
        rw [if_neg hc3] at h
        refine fj_ald rfl rfl hc3 ?_
        refine fj_blk 1 (4, 21, [some (.inl a0)], [(.inl (fj_tk a0.toNatClampNeg))], M) rfl ?_
        cases h
        exact fj_ri rfl rfl
/-- X2_givenBy -/
def dm_5 (a0 : Int32) (M : fj_M) : Option (Int32 × fj_M) := (if a0 < 0 then some (0, M) else (if 46 ≤ a0 then some (0, M) else (if a0 < 0 ∨ 46 ≤ a0.toNatClampNeg then none else some (fj_gv a0.toNatClampNeg, M))))
set_option maxRecDepth 40000 in
theorem de_5 (X : fj_X) (a0 : Int32) (M : fj_M) (r : (Int32 × fj_M)) (h : dm_5 a0 M = some r) : fj_ev X (5, 0, [some (.inl a0)], [], M) (some r.1, r.2) := by
    unfold dm_5 at h
    refine fj_blk 1 (5, 1, [some (.inl a0)], [(.inl a0)], M) rfl ?_
    by_cases hc1 : a0 < 0
    · rw [if_pos hc1] at h
      refine fj_bt rfl (decide_eq_true hc1) ?_
      refine fj_blk 1 (5, 21, [some (.inl a0)], [(.inl 0)], M) rfl ?_
      cases h
      exact fj_ri rfl rfl
    · rw [if_neg hc1] at h
      refine fj_bf rfl (decide_eq_false hc1) ?_
      refine fj_blk 3 (5, 9, [some (.inl a0)], [(.inl 46), (.inl a0)], M) rfl ?_
      by_cases hc2 : 46 ≤ a0
      · rw [if_pos hc2] at h
        refine fj_bt rfl (decide_eq_true hc2) ?_
        refine fj_blk 1 (5, 21, [some (.inl a0)], [(.inl 0)], M) rfl ?_
        cases h
        exact fj_ri rfl rfl
      · rw [if_neg hc2] at h
        refine fj_bf rfl (decide_eq_false hc2) ?_
        refine fj_blk 2 (5, 16, [some (.inl a0)], [(.inl a0), (.inr (41, 0))], M) rfl ?_
        by_cases hc3 : a0 < 0 ∨ 46 ≤ a0.toNatClampNeg
        · rw [if_pos hc3] at h
          cases h
        rw [if_neg hc3] at h
        refine fj_ald rfl rfl hc3 ?_
        refine fj_blk 1 (5, 21, [some (.inl a0)], [(.inl (fj_gv a0.toNatClampNeg))], M) rfl ?_
        cases h
        exact fj_ri rfl rfl
/-- X4_isLive -/
def dm_6 (a0 : Nat) (M : fj_M) : Option (Int32 × fj_M) := (if (M.1 7 a0 2) < 1 then some (0, M) else (if 6 < (M.1 7 a0 2) then some (0, M) else some (1, M)))
set_option maxRecDepth 40000 in
theorem de_6 (X : fj_X) (a0 : Nat) (M : fj_M) (r : (Int32 × fj_M)) (h : dm_6 a0 M = some r) : fj_ev X (6, 0, [some (.inr (7, a0))], [], M) (some r.1, r.2) := by
    unfold dm_6 at h
    refine fj_blk 3 (6, 5, [some (.inr (7, a0))], [(.inl 1), (.inl (M.1 7 a0 2))], M) rfl ?_
    by_cases hc1 : (M.1 7 a0 2) < 1
    · rw [if_pos hc1] at h
      refine fj_bt rfl (decide_eq_true hc1) ?_
      refine fj_blk 1 (6, 22, [some (.inr (7, a0))], [(.inl 0)], M) rfl ?_
      cases h
      exact fj_rz rfl rfl (Or.inl rfl)
    · rw [if_neg hc1] at h
      refine fj_bf rfl (decide_eq_false hc1) ?_
      refine fj_blk 3 (6, 14, [some (.inr (7, a0))], [(.inl 6), (.inl (M.1 7 a0 2))], M) rfl ?_
      by_cases hc2 : 6 < (M.1 7 a0 2)
      · rw [if_pos hc2] at h
        refine fj_bt rfl (decide_eq_true hc2) ?_
        refine fj_blk 1 (6, 22, [some (.inr (7, a0))], [(.inl 0)], M) rfl ?_
        cases h
        exact fj_rz rfl rfl (Or.inl rfl)
      · rw [if_neg hc2] at h
        refine fj_bf rfl (decide_eq_false hc2) ?_
        refine fj_blk 2 (6, 22, [some (.inr (7, a0))], [(.inl 1)], M) rfl ?_
        cases h
        exact fj_rz rfl rfl (Or.inr rfl)
/-- X4_restartAt -/
def dm_8 (a0 : Nat) (a1 : Int32) (a2 : Int32) (M : fj_M) : Option fj_M := some ((fj_u1 (fj_u1 (fj_u1 (fj_u1 (fj_u1 (fj_u1 M.1 7 a0 2 1) 7 a0 3 a1) 8 a0 0 a2) 7 a0 4 1) 7 a0 5 0) 7 a0 6 (-1)), M.2)
set_option maxRecDepth 40000 in
theorem de_8 (X : fj_X) (a0 : Nat) (a1 : Int32) (a2 : Int32) (M : fj_M) (r : fj_M) (h : dm_8 a0 a1 a2 M = some r) : fj_ev X (8, 0, [some (.inr (7, a0)), some (.inl a1), some (.inl a2)], [], M) (none, r) := by
    unfold dm_8 at h
    refine fj_blk 10 (8, 16, [some (.inr (7, a0)), some (.inl a1), some (.inl a2)], [(.inl a2), (.inl 0), (.inr (8, a0))], ((fj_u1 (fj_u1 M.1 7 a0 2 1) 7 a0 3 a1), M.2)) rfl ?_
    refine fj_ast rfl rfl (by decide) ?_
    refine fj_blk 9 (8, 32, [some (.inr (7, a0)), some (.inl a1), some (.inl a2)], [], ((fj_u1 (fj_u1 (fj_u1 (fj_u1 (fj_u1 (fj_u1 M.1 7 a0 2 1) 7 a0 3 a1) 8 a0 0 a2) 7 a0 4 1) 7 a0 5 0) 7 a0 6 (-1)), M.2)) rfl ?_
    cases h
    exact fj_rv rfl rfl
/-- X4_begin -/
def dm_7 (a0 : Nat) (a1 : Int32) (a2 : Int32) (M : fj_M) : Option fj_M := ((dm_8 a0 a1 a2 M).bind fun q1 => some ((fj_u1 (fj_u1 q1.1 7 a0 7 0) 7 a0 9 0), q1.2))
set_option maxRecDepth 40000 in
theorem de_7 (X : fj_X) (a0 : Nat) (a1 : Int32) (a2 : Int32) (M : fj_M) (r : fj_M) (h : dm_7 a0 a1 a2 M = some r) : fj_ev X (7, 0, [some (.inr (7, a0)), some (.inl a1), some (.inl a2)], [], M) (none, r) := by
    unfold dm_7 at h
    refine fj_blk 3 (7, 3, [some (.inr (7, a0)), some (.inl a1), some (.inl a2)], [(.inl a2), (.inl a1), (.inr (7, a0))], M) rfl ?_
    cases hq1 : dm_8 a0 a1 a2 M with
    | none => rw [hq1] at h; cases h
    | some q1 =>
      rw [hq1, Option.bind_some] at h
      refine fj_cl rfl (de_8 X a0 a1 a2 M _ hq1) ?_
      refine fj_blk 6 (7, 16, [some (.inr (7, a0)), some (.inl a1), some (.inl a2)], [], ((fj_u1 (fj_u1 q1.1 7 a0 7 0) 7 a0 9 0), q1.2)) rfl ?_
      cases h
      exact fj_rv rfl rfl
/-- X4_end -/
def dm_9 (a0 : Nat) (a1 : Int32) (a2 : Int32) (M : fj_M) : Option fj_M := some ((fj_u1 (fj_u1 M.1 7 a0 2 a1) 7 a0 9 a2), M.2)
set_option maxRecDepth 40000 in
theorem de_9 (X : fj_X) (a0 : Nat) (a1 : Int32) (a2 : Int32) (M : fj_M) (r : fj_M) (h : dm_9 a0 a1 a2 M = some r) : fj_ev X (9, 0, [some (.inr (7, a0)), some (.inl a1), some (.inl a2)], [], M) (none, r) := by
    unfold dm_9 at h
    refine fj_blk 6 (9, 10, [some (.inr (7, a0)), some (.inl a1), some (.inl a2)], [], ((fj_u1 (fj_u1 M.1 7 a0 2 a1) 7 a0 9 a2), M.2)) rfl ?_
    cases h
    exact fj_rv rfl rfl
/-- X4_waitFor -/
def dm_10 (a0 : Nat) (a1 : Int32) (a2 : Int32) (a3 : Int32) (M : fj_M) : Option fj_M := some ((fj_u1 (fj_u1 (fj_u1 M.1 7 a0 2 a1) 7 a0 10 a2) 7 a0 11 a3), M.2)
set_option maxRecDepth 40000 in
theorem de_10 (X : fj_X) (a0 : Nat) (a1 : Int32) (a2 : Int32) (a3 : Int32) (M : fj_M) (r : fj_M) (h : dm_10 a0 a1 a2 a3 M = some r) : fj_ev X (10, 0, [some (.inr (7, a0)), some (.inl a1), some (.inl a2), some (.inl a3)], [], M) (none, r) := by
    unfold dm_10 at h
    refine fj_blk 9 (10, 15, [some (.inr (7, a0)), some (.inl a1), some (.inl a2), some (.inl a3)], [], ((fj_u1 (fj_u1 (fj_u1 M.1 7 a0 2 a1) 7 a0 10 a2) 7 a0 11 a3), M.2)) rfl ?_
    cases h
    exact fj_rv rfl rfl
/-- X4_push -/
def dm_11 (a0 : Nat) (a1 : Int32) (M : fj_M) : Option fj_M := (if 24 ≤ (M.1 7 a0 4) then some M else (if (M.1 7 a0 4) < 0 ∨ 24 ≤ (M.1 7 a0 4).toNatClampNeg then none else some ((fj_u1 (fj_u1 M.1 7 a0 4 ((M.1 7 a0 4) + 1)) 8 a0 ((M.1 7 a0 4).toNatClampNeg) a1), M.2)))
set_option maxRecDepth 40000 in
theorem de_11 (X : fj_X) (a0 : Nat) (a1 : Int32) (M : fj_M) (r : fj_M) (h : dm_11 a0 a1 M = some r) : fj_ev X (11, 0, [some (.inr (7, a0)), some (.inl a1)], [], M) (none, r) := by
    unfold dm_11 at h
    refine fj_blk 3 (11, 6, [some (.inr (7, a0)), some (.inl a1)], [(.inl 24), (.inl (M.1 7 a0 4))], M) rfl ?_
    by_cases hc1 : 24 ≤ (M.1 7 a0 4)
    · rw [if_pos hc1] at h
      refine fj_bt rfl (decide_eq_true hc1) ?_
      cases h
      exact fj_rv rfl rfl
    · rw [if_neg hc1] at h
      refine fj_bf rfl (decide_eq_false hc1) ?_
      refine fj_blk 10 (11, 25, [some (.inr (7, a0)), some (.inl a1)], [(.inl a1), (.inl (M.1 7 a0 4)), (.inr (8, a0))], ((fj_u1 M.1 7 a0 4 ((M.1 7 a0 4) + 1)), M.2)) rfl ?_
      by_cases hc2 : (M.1 7 a0 4) < 0 ∨ 24 ≤ (M.1 7 a0 4).toNatClampNeg
      · rw [if_pos hc2] at h
        cases h
      rw [if_neg hc2] at h
      refine fj_ast rfl rfl hc2 ?_
      cases h
      exact fj_rv rfl rfl
/-- X4_pop -/
def dm_12 (a0 : Nat) (M : fj_M) : Option (Int32 × fj_M) := (if (M.1 7 a0 4) ≤ 0 then some (0, M) else (if ((M.1 7 a0 4) - 1) < 0 ∨ 24 ≤ ((M.1 7 a0 4) - 1).toNatClampNeg then none else some ((fj_u1 M.1 7 a0 4 ((M.1 7 a0 4) - 1)) 8 a0 (((M.1 7 a0 4) - 1).toNatClampNeg), ((fj_u1 M.1 7 a0 4 ((M.1 7 a0 4) - 1)), M.2))))
set_option maxRecDepth 40000 in
theorem de_12 (X : fj_X) (a0 : Nat) (M : fj_M) (r : (Int32 × fj_M)) (h : dm_12 a0 M = some r) : fj_ev X (12, 0, [some (.inr (7, a0))], [], M) (some r.1, r.2) := by
    unfold dm_12 at h
    refine fj_blk 2 (12, 4, [some (.inr (7, a0))], [(.inl (M.1 7 a0 4))], M) rfl ?_
    by_cases hc1 : (M.1 7 a0 4) ≤ 0
    · rw [if_pos hc1] at h
      refine fj_bt rfl (decide_eq_true hc1) ?_
      refine fj_blk 1 (12, 27, [some (.inr (7, a0))], [(.inl 0)], M) rfl ?_
      cases h
      exact fj_ri rfl rfl
    · rw [if_neg hc1] at h
      refine fj_bf rfl (decide_eq_false hc1) ?_
      refine fj_blk 9 (12, 22, [some (.inr (7, a0))], [(.inl ((M.1 7 a0 4) - 1)), (.inr (8, a0))], ((fj_u1 M.1 7 a0 4 ((M.1 7 a0 4) - 1)), M.2)) rfl ?_
      by_cases hc2 : ((M.1 7 a0 4) - 1) < 0 ∨ 24 ≤ ((M.1 7 a0 4) - 1).toNatClampNeg
      · rw [if_pos hc2] at h
        cases h
      rw [if_neg hc2] at h
      refine fj_ald rfl rfl hc2 ?_
      refine fj_blk 1 (12, 27, [some (.inr (7, a0))], [(.inl ((fj_u1 M.1 7 a0 4 ((M.1 7 a0 4) - 1)) 8 a0 (((M.1 7 a0 4) - 1).toNatClampNeg)))], ((fj_u1 M.1 7 a0 4 ((M.1 7 a0 4) - 1)), M.2)) rfl ?_
      cases h
      exact fj_ri rfl rfl
/-- X4_below -/
def dm_13 (a0 : Nat) (a1 : Int32) (M : fj_M) : Option (Int32 × fj_M) := (if a1 < 0 then some (0, M) else (if (M.1 7 a0 4) ≤ a1 then some (0, M) else (if (((M.1 7 a0 4) - 1) - a1) < 0 ∨ 24 ≤ (((M.1 7 a0 4) - 1) - a1).toNatClampNeg then none else some (M.1 8 a0 ((((M.1 7 a0 4) - 1) - a1).toNatClampNeg), M))))
set_option maxRecDepth 40000 in
theorem de_13 (X : fj_X) (a0 : Nat) (a1 : Int32) (M : fj_M) (r : (Int32 × fj_M)) (h : dm_13 a0 a1 M = some r) : fj_ev X (13, 0, [some (.inr (7, a0)), some (.inl a1)], [], M) (some r.1, r.2) := by
    unfold dm_13 at h
    refine fj_blk 1 (13, 1, [some (.inr (7, a0)), some (.inl a1)], [(.inl a1)], M) rfl ?_
    by_cases hc1 : a1 < 0
    · rw [if_pos hc1] at h
      refine fj_bt rfl (decide_eq_true hc1) ?_
      refine fj_blk 1 (13, 29, [some (.inr (7, a0)), some (.inl a1)], [(.inl 0)], M) rfl ?_
      cases h
      exact fj_ri rfl rfl
    · rw [if_neg hc1] at h
      refine fj_bf rfl (decide_eq_false hc1) ?_
      refine fj_blk 3 (13, 9, [some (.inr (7, a0)), some (.inl a1)], [(.inl (M.1 7 a0 4)), (.inl a1)], M) rfl ?_
      by_cases hc2 : (M.1 7 a0 4) ≤ a1
      · rw [if_pos hc2] at h
        refine fj_bt rfl (decide_eq_true hc2) ?_
        refine fj_blk 1 (13, 29, [some (.inr (7, a0)), some (.inl a1)], [(.inl 0)], M) rfl ?_
        cases h
        exact fj_ri rfl rfl
      · rw [if_neg hc2] at h
        refine fj_bf rfl (decide_eq_false hc2) ?_
        refine fj_blk 8 (13, 24, [some (.inr (7, a0)), some (.inl a1)], [(.inl (((M.1 7 a0 4) - 1) - a1)), (.inr (8, a0))], M) rfl ?_
        by_cases hc3 : (((M.1 7 a0 4) - 1) - a1) < 0 ∨ 24 ≤ (((M.1 7 a0 4) - 1) - a1).toNatClampNeg
        · rw [if_pos hc3] at h
          cases h
        rw [if_neg hc3] at h
        refine fj_ald rfl rfl hc3 ?_
        refine fj_blk 1 (13, 29, [some (.inr (7, a0)), some (.inl a1)], [(.inl (M.1 8 a0 ((((M.1 7 a0 4) - 1) - a1).toNatClampNeg)))], M) rfl ?_
        cases h
        exact fj_ri rfl rfl
/-- X4_pushReturn -/
def dm_14 (a0 : Nat) (a1 : Int32) (M : fj_M) : Option fj_M := (if 12 ≤ (M.1 7 a0 5) then some M else (if (M.1 7 a0 5) < 0 ∨ 12 ≤ (M.1 7 a0 5).toNatClampNeg then none else some ((fj_u1 (fj_u1 M.1 7 a0 5 ((M.1 7 a0 5) + 1)) 9 a0 ((M.1 7 a0 5).toNatClampNeg) a1), M.2)))
set_option maxRecDepth 40000 in
theorem de_14 (X : fj_X) (a0 : Nat) (a1 : Int32) (M : fj_M) (r : fj_M) (h : dm_14 a0 a1 M = some r) : fj_ev X (14, 0, [some (.inr (7, a0)), some (.inl a1)], [], M) (none, r) := by
    unfold dm_14 at h
    refine fj_blk 3 (14, 6, [some (.inr (7, a0)), some (.inl a1)], [(.inl 12), (.inl (M.1 7 a0 5))], M) rfl ?_
    by_cases hc1 : 12 ≤ (M.1 7 a0 5)
    · rw [if_pos hc1] at h
      refine fj_bt rfl (decide_eq_true hc1) ?_
      cases h
      exact fj_rv rfl rfl
    · rw [if_neg hc1] at h
      refine fj_bf rfl (decide_eq_false hc1) ?_
      refine fj_blk 10 (14, 25, [some (.inr (7, a0)), some (.inl a1)], [(.inl a1), (.inl (M.1 7 a0 5)), (.inr (9, a0))], ((fj_u1 M.1 7 a0 5 ((M.1 7 a0 5) + 1)), M.2)) rfl ?_
      by_cases hc2 : (M.1 7 a0 5) < 0 ∨ 12 ≤ (M.1 7 a0 5).toNatClampNeg
      · rw [if_pos hc2] at h
        cases h
      rw [if_neg hc2] at h
      refine fj_ast rfl rfl hc2 ?_
      cases h
      exact fj_rv rfl rfl
/-- X4_popReturn -/
def dm_15 (a0 : Nat) (M : fj_M) : Option (Int32 × fj_M) := (if (M.1 7 a0 5) ≤ 0 then some (M.1 7 a0 3, M) else (if ((M.1 7 a0 5) - 1) < 0 ∨ 12 ≤ ((M.1 7 a0 5) - 1).toNatClampNeg then none else some ((fj_u1 M.1 7 a0 5 ((M.1 7 a0 5) - 1)) 9 a0 (((M.1 7 a0 5) - 1).toNatClampNeg), ((fj_u1 M.1 7 a0 5 ((M.1 7 a0 5) - 1)), M.2))))
set_option maxRecDepth 40000 in
theorem de_15 (X : fj_X) (a0 : Nat) (M : fj_M) (r : (Int32 × fj_M)) (h : dm_15 a0 M = some r) : fj_ev X (15, 0, [some (.inr (7, a0))], [], M) (some r.1, r.2) := by
    unfold dm_15 at h
    refine fj_blk 2 (15, 4, [some (.inr (7, a0))], [(.inl (M.1 7 a0 5))], M) rfl ?_
    by_cases hc1 : (M.1 7 a0 5) ≤ 0
    · rw [if_pos hc1] at h
      refine fj_bt rfl (decide_eq_true hc1) ?_
      refine fj_blk 2 (15, 30, [some (.inr (7, a0))], [(.inl (M.1 7 a0 3))], M) rfl ?_
      cases h
      exact fj_ri rfl rfl
    · rw [if_neg hc1] at h
      refine fj_bf rfl (decide_eq_false hc1) ?_
      refine fj_blk 9 (15, 22, [some (.inr (7, a0))], [(.inl ((M.1 7 a0 5) - 1)), (.inr (9, a0))], ((fj_u1 M.1 7 a0 5 ((M.1 7 a0 5) - 1)), M.2)) rfl ?_
      by_cases hc2 : ((M.1 7 a0 5) - 1) < 0 ∨ 12 ≤ ((M.1 7 a0 5) - 1).toNatClampNeg
      · rw [if_pos hc2] at h
        cases h
      rw [if_neg hc2] at h
      refine fj_ald rfl rfl hc2 ?_
      refine fj_blk 1 (15, 30, [some (.inr (7, a0))], [(.inl ((fj_u1 M.1 7 a0 5 ((M.1 7 a0 5) - 1)) 9 a0 (((M.1 7 a0 5) - 1).toNatClampNeg)))], ((fj_u1 M.1 7 a0 5 ((M.1 7 a0 5) - 1)), M.2)) rfl ?_
      cases h
      exact fj_ri rfl rfl
