/-! METHODS AS FUNCTIONS: by program -/
/-- X5_isCodePlace -/
def dm_35 (a0 : Int32) (M : fj_M) : Option (Int32 × fj_M) := (if a0 < 0 then some (0, M) else (if 512 ≤ a0 then some (0, M) else some (1, M)))
set_option maxRecDepth 40000 in
theorem de_35 (X : fj_X) (a0 : Int32) (M : fj_M) (r : (Int32 × fj_M)) (h : dm_35 a0 M = some r) : fj_ev X (35, 0, [some (.inl a0)], [], M) (some r.1, r.2) := by
    unfold dm_35 at h
    refine fj_blk 1 (35, 1, [some (.inl a0)], [(.inl a0)], M) rfl ?_
    by_cases hc1 : a0 < 0
    · rw [if_pos hc1] at h
      refine fj_bt rfl (decide_eq_true hc1) ?_
      refine fj_blk 1 (35, 16, [some (.inl a0)], [(.inl 0)], M) rfl ?_
      cases h
      exact fj_rz rfl rfl (Or.inl rfl)
    · rw [if_neg hc1] at h
      refine fj_bf rfl (decide_eq_false hc1) ?_
      refine fj_blk 2 (35, 8, [some (.inl a0)], [(.inl 512), (.inl a0)], M) rfl ?_
      by_cases hc2 : 512 ≤ a0
      · rw [if_pos hc2] at h
        refine fj_bt rfl (decide_eq_true hc2) ?_
        refine fj_blk 1 (35, 16, [some (.inl a0)], [(.inl 0)], M) rfl ?_
        cases h
        exact fj_rz rfl rfl (Or.inl rfl)
      · rw [if_neg hc2] at h
        refine fj_bf rfl (decide_eq_false hc2) ?_
        refine fj_blk 2 (35, 16, [some (.inl a0)], [(.inl 1)], M) rfl ?_
        cases h
        exact fj_rz rfl rfl (Or.inr rfl)
/-- X5_poke -/
def dm_16 (a1 : Int32) (a2 : Int32) (M : fj_M) : Option (Int32 × fj_M) := ((dm_35 a1 M).bind fun q1 => (if q1.1 = 0 then some (0, q1.2) else (if a1 < 0 ∨ 512 ≤ a1.toNatClampNeg then none else (if a1 < 0 ∨ 512 ≤ a1.toNatClampNeg then none else some (q1.2.1 1 0 a1.toNatClampNeg, ((fj_u1 q1.2.1 1 0 a1.toNatClampNeg a2), q1.2.2))))))
set_option maxRecDepth 40000 in
theorem de_16 (X : fj_X) (a1 : Int32) (a2 : Int32) (M : fj_M) (r : (Int32 × fj_M)) (h : dm_16 a1 a2 M = some r) : fj_ev X (16, 0, [some (.inr (0, 0)), some (.inl a1), some (.inl a2), none], [], M) (some r.1, r.2) := by
    unfold dm_16 at h
    refine fj_blk 1 (16, 1, [some (.inr (0, 0)), some (.inl a1), some (.inl a2), none], [(.inl a1)], M) rfl ?_
    cases hq1 : dm_35 a1 M with
    | none => rw [hq1] at h; cases h
    | some q1 =>
      rw [hq1, Option.bind_some] at h
      refine fj_cl rfl (de_35 X a1 M _ hq1) ?_
      by_cases hc2 : q1.1 = 0
      · rw [if_pos hc2] at h
        refine fj_bf rfl (fj_nf hc2) ?_
        refine fj_blk 1 (16, 8, [some (.inr (0, 0)), some (.inl a1), some (.inl a2), none], [(.inl 0)], q1.2) rfl ?_
        cases h
        exact fj_ri rfl rfl
      · rw [if_neg hc2] at h
        refine fj_bt rfl (fj_nt hc2) ?_
        refine fj_blk 3 (16, 14, [some (.inr (0, 0)), some (.inl a1), some (.inl a2), none], [(.inl a1), (.inr (1, 0))], q1.2) rfl ?_
        by_cases hc3 : a1 < 0 ∨ 512 ≤ a1.toNatClampNeg
        · rw [if_pos hc3] at h
          cases h
        rw [if_neg hc3] at h
        refine fj_ald rfl rfl hc3 ?_
        refine fj_blk 5 (16, 22, [some (.inr (0, 0)), some (.inl a1), some (.inl a2), some (.inl (q1.2.1 1 0 a1.toNatClampNeg))], [(.inl a2), (.inl a1), (.inr (1, 0))], q1.2) rfl ?_
        by_cases hc4 : a1 < 0 ∨ 512 ≤ a1.toNatClampNeg
        · rw [if_pos hc4] at h
          cases h
        rw [if_neg hc4] at h
        refine fj_ast rfl rfl hc4 ?_
        refine fj_blk 1 (16, 24, [some (.inr (0, 0)), some (.inl a1), some (.inl a2), some (.inl (q1.2.1 1 0 a1.toNatClampNeg))], [(.inl (q1.2.1 1 0 a1.toNatClampNeg))], ((fj_u1 q1.2.1 1 0 a1.toNatClampNeg a2), q1.2.2)) rfl ?_
        cases h
        exact fj_ri rfl rfl
/-- X5_code -/
def dm_17 (a1 : Int32) (M : fj_M) : Option (Int32 × fj_M) := ((dm_35 a1 M).bind fun q1 => (if q1.1 = 0 then some (0, q1.2) else (if a1 < 0 ∨ 512 ≤ a1.toNatClampNeg then none else some (q1.2.1 1 0 a1.toNatClampNeg, q1.2))))
set_option maxRecDepth 40000 in
theorem de_17 (X : fj_X) (a1 : Int32) (M : fj_M) (r : (Int32 × fj_M)) (h : dm_17 a1 M = some r) : fj_ev X (17, 0, [some (.inr (0, 0)), some (.inl a1)], [], M) (some r.1, r.2) := by
    unfold dm_17 at h
    refine fj_blk 1 (17, 1, [some (.inr (0, 0)), some (.inl a1)], [(.inl a1)], M) rfl ?_
    cases hq1 : dm_35 a1 M with
    | none => rw [hq1] at h; cases h
    | some q1 =>
      rw [hq1, Option.bind_some] at h
      refine fj_cl rfl (de_35 X a1 M _ hq1) ?_
      by_cases hc2 : q1.1 = 0
      · rw [if_pos hc2] at h
        refine fj_bt rfl (decide_eq_true hc2) ?_
        refine fj_blk 1 (17, 17, [some (.inr (0, 0)), some (.inl a1)], [(.inl 0)], q1.2) rfl ?_
        cases h
        exact fj_ri rfl rfl
      · rw [if_neg hc2] at h
        refine fj_bf rfl (decide_eq_false hc2) ?_
        refine fj_blk 3 (17, 12, [some (.inr (0, 0)), some (.inl a1)], [(.inl a1), (.inr (1, 0))], q1.2) rfl ?_
        by_cases hc3 : a1 < 0 ∨ 512 ≤ a1.toNatClampNeg
        · rw [if_pos hc3] at h
          cases h
        rw [if_neg hc3] at h
        refine fj_ald rfl rfl hc3 ?_
        refine fj_blk 1 (17, 17, [some (.inr (0, 0)), some (.inl a1)], [(.inl (q1.2.1 1 0 a1.toNatClampNeg))], q1.2) rfl ?_
        cases h
        exact fj_ri rfl rfl
/-- X5_word -/
def dm_18 (a1 : Int32) (a2 : Int32) (M : fj_M) : Option (Int32 × fj_M) := (if a1 < 0 then some (0, M) else (if 255 < a1 then some (0, M) else some ((a2 <<< (8 &&& 31)) ||| a1, M)))
set_option maxRecDepth 40000 in
theorem de_18 (X : fj_X) (a1 : Int32) (a2 : Int32) (M : fj_M) (r : (Int32 × fj_M)) (h : dm_18 a1 a2 M = some r) : fj_ev X (18, 0, [some (.inr (0, 0)), some (.inl a1), some (.inl a2)], [], M) (some r.1, r.2) := by
    unfold dm_18 at h
    refine fj_blk 1 (18, 1, [some (.inr (0, 0)), some (.inl a1), some (.inl a2)], [(.inl a1)], M) rfl ?_
    by_cases hc1 : a1 < 0
    · rw [if_pos hc1] at h
      refine fj_bt rfl (decide_eq_true hc1) ?_
      refine fj_blk 1 (18, 21, [some (.inr (0, 0)), some (.inl a1), some (.inl a2)], [(.inl 0)], M) rfl ?_
      cases h
      exact fj_ri rfl rfl
    · rw [if_neg hc1] at h
      refine fj_bf rfl (decide_eq_false hc1) ?_
      refine fj_blk 2 (18, 8, [some (.inr (0, 0)), some (.inl a1), some (.inl a2)], [(.inl 255), (.inl a1)], M) rfl ?_
      by_cases hc2 : 255 < a1
      · rw [if_pos hc2] at h
        refine fj_bt rfl (decide_eq_true hc2) ?_
        refine fj_blk 1 (18, 21, [some (.inr (0, 0)), some (.inl a1), some (.inl a2)], [(.inl 0)], M) rfl ?_
        cases h
        exact fj_ri rfl rfl
      · rw [if_neg hc2] at h
        refine fj_bf rfl (decide_eq_false hc2) ?_
        refine fj_blk 6 (18, 21, [some (.inr (0, 0)), some (.inl a1), some (.inl a2)], [(.inl ((a2 <<< (8 &&& 31)) ||| a1))], M) rfl ?_
        cases h
        exact fj_ri rfl rfl
def dm_45_2  : Nat → Int32 → fj_M → Option (Int32 × fj_M)
  | 0, _, _ => none
  | n + 1, a1, M => (if 12 ≤ a1 then some ((-1), M) else (if a1 < 0 ∨ 12 ≤ a1.toNatClampNeg then none else ((dm_6 a1.toNatClampNeg M).bind fun q3 => (if q3.1 = 0 then some (a1, q3.2) else dm_45_2 n (a1 + 1) q3.2))))
set_option maxRecDepth 40000 in
theorem de_45_2 (X : fj_X) : ∀ (n : Nat) (a1 : Int32) (M : fj_M) (r : (Int32 × fj_M)), dm_45_2 n a1 M = some r → fj_ev X (45, 2, [some (.inr (0, 0)), some (.inl a1)], [], M) (some r.1, r.2)
  | 0, _, _, r, h => by cases h
  | n + 1, a1, M, r, h => by
    unfold dm_45_2 at h
    refine fj_blk 2 (45, 5, [some (.inr (0, 0)), some (.inl a1)], [(.inl 12), (.inl a1)], M) rfl ?_
    by_cases hc1 : 12 ≤ a1
    · rw [if_pos hc1] at h
      refine fj_bt rfl (decide_eq_true hc1) ?_
      refine fj_blk 1 (45, 29, [some (.inr (0, 0)), some (.inl a1)], [(.inl (-1))], M) rfl ?_
      cases h
      exact fj_ri rfl rfl
    · rw [if_neg hc1] at h
      refine fj_bf rfl (decide_eq_false hc1) ?_
      refine fj_blk 3 (45, 13, [some (.inr (0, 0)), some (.inl a1)], [(.inl a1), (.inr (4, 0))], M) rfl ?_
      by_cases hc2 : a1 < 0 ∨ 12 ≤ a1.toNatClampNeg
      · rw [if_pos hc2] at h
        cases h
      rw [if_neg hc2] at h
      refine fj_aal rfl rfl hc2 ?_
      cases hq3 : dm_6 a1.toNatClampNeg M with
      | none => rw [hq3] at h; cases h
      | some q3 =>
        rw [hq3, Option.bind_some] at h
        refine fj_cl rfl (de_6 X a1.toNatClampNeg M _ hq3) ?_
        by_cases hc4 : q3.1 = 0
        · rw [if_pos hc4] at h
          refine fj_bf rfl (fj_nf hc4) ?_
          refine fj_blk 1 (45, 21, [some (.inr (0, 0)), some (.inl a1)], [(.inl a1)], q3.2) rfl ?_
          cases h
          exact fj_ri rfl rfl
        · rw [if_neg hc4] at h
          refine fj_bt rfl (fj_nt hc4) ?_
          refine fj_blk 2 (45, 2, [some (.inr (0, 0)), some (.inl (a1 + 1))], [], q3.2) rfl ?_
          exact de_45_2 X n (a1 + 1) q3.2 r h
/-- X5_leastNotLive -/
def dm_45  (M : fj_M) : Option (Int32 × fj_M) := dm_45_2 40 0 M
set_option maxRecDepth 40000 in
theorem de_45 (X : fj_X)  (M : fj_M) (r : (Int32 × fj_M)) (h : dm_45  M = some r) : fj_ev X (45, 0, [some (.inr (0, 0)), none], [], M) (some r.1, r.2) := by
    unfold dm_45 at h
    refine fj_blk 2 (45, 2, [some (.inr (0, 0)), some (.inl 0)], [], M) rfl ?_
    exact de_45_2 X 40 0 M r h
/-- X5_isTask -/
def dm_37 (a0 : Int32) (M : fj_M) : Option (Int32 × fj_M) := (if a0 < 0 then some (0, M) else (if 12 ≤ a0 then some (0, M) else some (1, M)))
set_option maxRecDepth 40000 in
theorem de_37 (X : fj_X) (a0 : Int32) (M : fj_M) (r : (Int32 × fj_M)) (h : dm_37 a0 M = some r) : fj_ev X (37, 0, [some (.inl a0)], [], M) (some r.1, r.2) := by
    unfold dm_37 at h
    refine fj_blk 1 (37, 1, [some (.inl a0)], [(.inl a0)], M) rfl ?_
    by_cases hc1 : a0 < 0
    · rw [if_pos hc1] at h
      refine fj_bt rfl (decide_eq_true hc1) ?_
      refine fj_blk 1 (37, 15, [some (.inl a0)], [(.inl 0)], M) rfl ?_
      cases h
      exact fj_rz rfl rfl (Or.inl rfl)
    · rw [if_neg hc1] at h
      refine fj_bf rfl (decide_eq_false hc1) ?_
      refine fj_blk 2 (37, 7, [some (.inl a0)], [(.inl 12), (.inl a0)], M) rfl ?_
      by_cases hc2 : 12 ≤ a0
      · rw [if_pos hc2] at h
        refine fj_bt rfl (decide_eq_true hc2) ?_
        refine fj_blk 1 (37, 15, [some (.inl a0)], [(.inl 0)], M) rfl ?_
        cases h
        exact fj_rz rfl rfl (Or.inl rfl)
      · rw [if_neg hc2] at h
        refine fj_bf rfl (decide_eq_false hc2) ?_
        refine fj_blk 2 (37, 15, [some (.inl a0)], [(.inl 1)], M) rfl ?_
        cases h
        exact fj_rz rfl rfl (Or.inr rfl)
def dm_44_17  : Nat → Int32 → Int32 → Int32 → Int32 → fj_M → Option (Int32 × fj_M)
  | 0, _, _, _, _, _ => none
  | n + 1, a1, a2, a3, a4, M => (if 12 ≤ a4 then (if a3 < 0 ∨ 12 ≤ a3.toNatClampNeg then none else ((dm_7 a3.toNatClampNeg a1 a2 M).bind fun q3 => some (a3, ((fj_u1 q3.1 0 0 12 ((q3.1 0 0 12) + 1)), q3.2)))) else (if a4 < 0 ∨ 12 ≤ a4.toNatClampNeg then none else dm_44_17 n a1 a2 a3 (a4 + 1) ((fj_u1 M.1 7 a4.toNatClampNeg 7 ((M.1 7 a4.toNatClampNeg 7) &&& ((1 <<< (a3 &&& 31)) ^^^ (-1)))), M.2)))
set_option maxRecDepth 40000 in
theorem de_44_17 (X : fj_X) : ∀ (n : Nat) (a1 : Int32) (a2 : Int32) (a3 : Int32) (a4 : Int32) (M : fj_M) (r : (Int32 × fj_M)), dm_44_17 n a1 a2 a3 a4 M = some r → fj_ev X (44, 17, [some (.inr (0, 0)), some (.inl a1), some (.inl a2), some (.inl a3), some (.inl a4)], [], M) (some r.1, r.2)
  | 0, _, _, _, _, _, r, h => by cases h
  | n + 1, a1, a2, a3, a4, M, r, h => by
    unfold dm_44_17 at h
    refine fj_blk 2 (44, 21, [some (.inr (0, 0)), some (.inl a1), some (.inl a2), some (.inl a3), some (.inl a4)], [(.inl 12), (.inl a4)], M) rfl ?_
    by_cases hc1 : 12 ≤ a4
    · rw [if_pos hc1] at h
      refine fj_bt rfl (decide_eq_true hc1) ?_
      refine fj_blk 3 (44, 55, [some (.inr (0, 0)), some (.inl a1), some (.inl a2), some (.inl a3), some (.inl a4)], [(.inl a3), (.inr (4, 0))], M) rfl ?_
      by_cases hc2 : a3 < 0 ∨ 12 ≤ a3.toNatClampNeg
      · rw [if_pos hc2] at h
        cases h
      rw [if_neg hc2] at h
      refine fj_aal rfl rfl hc2 ?_
      refine fj_blk 2 (44, 58, [some (.inr (0, 0)), some (.inl a1), some (.inl a2), some (.inl a3), some (.inl a4)], [(.inl a2), (.inl a1), (.inr (7, a3.toNatClampNeg))], M) rfl ?_
      cases hq3 : dm_7 a3.toNatClampNeg a1 a2 M with
      | none => rw [hq3] at h; cases h
      | some q3 =>
        rw [hq3, Option.bind_some] at h
        refine fj_cl rfl (de_7 X a3.toNatClampNeg a1 a2 M _ hq3) ?_
        refine fj_blk 7 (44, 72, [some (.inr (0, 0)), some (.inl a1), some (.inl a2), some (.inl a3), some (.inl a4)], [(.inl a3)], ((fj_u1 q3.1 0 0 12 ((q3.1 0 0 12) + 1)), q3.2)) rfl ?_
        cases h
        exact fj_ri rfl rfl
    · rw [if_neg hc1] at h
      refine fj_bf rfl (decide_eq_false hc1) ?_
      refine fj_blk 3 (44, 30, [some (.inr (0, 0)), some (.inl a1), some (.inl a2), some (.inl a3), some (.inl a4)], [(.inl a4), (.inr (4, 0))], M) rfl ?_
      by_cases hc4 : a4 < 0 ∨ 12 ≤ a4.toNatClampNeg
      · rw [if_pos hc4] at h
        cases h
      rw [if_neg hc4] at h
      refine fj_aal rfl rfl hc4 ?_
      refine fj_blk 11 (44, 17, [some (.inr (0, 0)), some (.inl a1), some (.inl a2), some (.inl a3), some (.inl (a4 + 1))], [], ((fj_u1 M.1 7 a4.toNatClampNeg 7 ((M.1 7 a4.toNatClampNeg 7) &&& ((1 <<< (a3 &&& 31)) ^^^ (-1)))), M.2)) rfl ?_
      exact de_44_17 X n a1 a2 a3 (a4 + 1) ((fj_u1 M.1 7 a4.toNatClampNeg 7 ((M.1 7 a4.toNatClampNeg 7) &&& ((1 <<< (a3 &&& 31)) ^^^ (-1)))), M.2) r h
/-- X5_startTask -/
def dm_44 (a1 : Int32) (a2 : Int32) (M : fj_M) : Option (Int32 × fj_M) := ((dm_45 M).bind fun q1 => ((dm_37 q1.1 q1.2).bind fun q2 => (if q2.1 = 0 then some ((-1), q2.2) else dm_44_17 40 a1 a2 q1.1 0 q2.2)))
set_option maxRecDepth 40000 in
theorem de_44 (X : fj_X) (a1 : Int32) (a2 : Int32) (M : fj_M) (r : (Int32 × fj_M)) (h : dm_44 a1 a2 M = some r) : fj_ev X (44, 0, [some (.inr (0, 0)), some (.inl a1), some (.inl a2), none, none], [], M) (some r.1, r.2) := by
    unfold dm_44 at h
    refine fj_blk 1 (44, 1, [some (.inr (0, 0)), some (.inl a1), some (.inl a2), none, none], [(.inr (0, 0))], M) rfl ?_
    cases hq1 : dm_45 M with
    | none => rw [hq1] at h; cases h
    | some q1 =>
      rw [hq1, Option.bind_some] at h
      refine fj_cl rfl (de_45 X M _ hq1) ?_
      refine fj_blk 2 (44, 6, [some (.inr (0, 0)), some (.inl a1), some (.inl a2), some (.inl q1.1), none], [(.inl q1.1)], q1.2) rfl ?_
      cases hq2 : dm_37 q1.1 q1.2 with
      | none => rw [hq2] at h; cases h
      | some q2 =>
        rw [hq2, Option.bind_some] at h
        refine fj_cl rfl (de_37 X q1.1 q1.2 _ hq2) ?_
        by_cases hc3 : q2.1 = 0
        · rw [if_pos hc3] at h
          refine fj_bf rfl (fj_nf hc3) ?_
          refine fj_blk 1 (44, 13, [some (.inr (0, 0)), some (.inl a1), some (.inl a2), some (.inl q1.1), none], [(.inl (-1))], q2.2) rfl ?_
          cases h
          exact fj_ri rfl rfl
        · rw [if_neg hc3] at h
          refine fj_bt rfl (fj_nt hc3) ?_
          refine fj_blk 2 (44, 17, [some (.inr (0, 0)), some (.inl a1), some (.inl a2), some (.inl q1.1), some (.inl 0)], [], q2.2) rfl ?_
          exact de_44_17 X 40 a1 a2 q1.1 0 q2.2 r h
/-- X5_spawn -/
def dm_19 (a1 : Int32) (a2 : Int32) (M : fj_M) : Option (Int32 × fj_M) := ((dm_35 a1 M).bind fun q1 => (if q1.1 = 0 then some ((-2), q1.2) else ((dm_44 a1 a2 q1.2).bind fun q3 => (if q3.1 = (-1) then some ((-4), q3.2) else some (q3.1, q3.2)))))
set_option maxRecDepth 40000 in
theorem de_19 (X : fj_X) (a1 : Int32) (a2 : Int32) (M : fj_M) (r : (Int32 × fj_M)) (h : dm_19 a1 a2 M = some r) : fj_ev X (19, 0, [some (.inr (0, 0)), some (.inl a1), some (.inl a2), none], [], M) (some r.1, r.2) := by
    unfold dm_19 at h
    refine fj_blk 1 (19, 1, [some (.inr (0, 0)), some (.inl a1), some (.inl a2), none], [(.inl a1)], M) rfl ?_
    cases hq1 : dm_35 a1 M with
    | none => rw [hq1] at h; cases h
    | some q1 =>
      rw [hq1, Option.bind_some] at h
      refine fj_cl rfl (de_35 X a1 M _ hq1) ?_
      by_cases hc2 : q1.1 = 0
      · rw [if_pos hc2] at h
        refine fj_bf rfl (fj_nf hc2) ?_
        refine fj_blk 1 (19, 9, [some (.inr (0, 0)), some (.inl a1), some (.inl a2), none], [(.inl (-2))], q1.2) rfl ?_
        cases h
        exact fj_ri rfl rfl
      · rw [if_neg hc2] at h
        refine fj_bt rfl (fj_nt hc2) ?_
        refine fj_blk 3 (19, 13, [some (.inr (0, 0)), some (.inl a1), some (.inl a2), none], [(.inl a2), (.inl a1), (.inr (0, 0))], q1.2) rfl ?_
        cases hq3 : dm_44 a1 a2 q1.2 with
        | none => rw [hq3] at h; cases h
        | some q3 =>
          rw [hq3, Option.bind_some] at h
          refine fj_cl rfl (de_44 X a1 a2 q1.2 _ hq3) ?_
          refine fj_blk 3 (19, 19, [some (.inr (0, 0)), some (.inl a1), some (.inl a2), some (.inl q3.1)], [(.inl (-1)), (.inl q3.1)], q3.2) rfl ?_
          by_cases hc4 : q3.1 = (-1)
          · rw [if_pos hc4] at h
            refine fj_bf rfl (fj_nf hc4) ?_
            refine fj_blk 2 (19, 28, [some (.inr (0, 0)), some (.inl a1), some (.inl a2), some (.inl q3.1)], [(.inl (-4))], q3.2) rfl ?_
            cases h
            exact fj_ri rfl rfl
          · rw [if_neg hc4] at h
            refine fj_bt rfl (fj_nt hc4) ?_
            refine fj_blk 1 (19, 28, [some (.inr (0, 0)), some (.inl a1), some (.inl a2), some (.inl q3.1)], [(.inl q3.1)], q3.2) rfl ?_
            cases h
            exact fj_ri rfl rfl
/-- X5_quantum -/
def dm_20 (a1 : Int32) (M : fj_M) : Option (Int32 × fj_M) := (if a1 < 1 then some ((-2), M) else (if a1 ≤ 50 then some (M.1 0 0 6, ((fj_u1 M.1 0 0 6 a1), M.2)) else some ((-2), M)))
set_option maxRecDepth 40000 in
theorem de_20 (X : fj_X) (a1 : Int32) (M : fj_M) (r : (Int32 × fj_M)) (h : dm_20 a1 M = some r) : fj_ev X (20, 0, [some (.inr (0, 0)), some (.inl a1), none], [], M) (some r.1, r.2) := by
    unfold dm_20 at h
    refine fj_blk 2 (20, 2, [some (.inr (0, 0)), some (.inl a1), none], [(.inl 1), (.inl a1)], M) rfl ?_
    by_cases hc1 : a1 < 1
    · rw [if_pos hc1] at h
      refine fj_bt rfl (decide_eq_true hc1) ?_
      refine fj_blk 1 (20, 13, [some (.inr (0, 0)), some (.inl a1), none], [(.inl (-2))], M) rfl ?_
      cases h
      exact fj_ri rfl rfl
    · rw [if_neg hc1] at h
      refine fj_bf rfl (decide_eq_false hc1) ?_
      refine fj_blk 2 (20, 8, [some (.inr (0, 0)), some (.inl a1), none], [(.inl 50), (.inl a1)], M) rfl ?_
      by_cases hc2 : a1 ≤ 50
      · rw [if_pos hc2] at h
        refine fj_bt rfl (decide_eq_true hc2) ?_
        refine fj_blk 7 (20, 25, [some (.inr (0, 0)), some (.inl a1), some (.inl (M.1 0 0 6))], [(.inl (M.1 0 0 6))], ((fj_u1 M.1 0 0 6 a1), M.2)) rfl ?_
        cases h
        exact fj_ri rfl rfl
      · rw [if_neg hc2] at h
        refine fj_bf rfl (decide_eq_false hc2) ?_
        refine fj_blk 1 (20, 13, [some (.inr (0, 0)), some (.inl a1), none], [(.inl (-2))], M) rfl ?_
        cases h
        exact fj_ri rfl rfl
/-- X5_isChannel -/
def dm_38 (a0 : Int32) (M : fj_M) : Option (Int32 × fj_M) := (if a0 < 0 then some (0, M) else (if 6 ≤ a0 then some (0, M) else some (1, M)))
set_option maxRecDepth 40000 in
theorem de_38 (X : fj_X) (a0 : Int32) (M : fj_M) (r : (Int32 × fj_M)) (h : dm_38 a0 M = some r) : fj_ev X (38, 0, [some (.inl a0)], [], M) (some r.1, r.2) := by
    unfold dm_38 at h
    refine fj_blk 1 (38, 1, [some (.inl a0)], [(.inl a0)], M) rfl ?_
    by_cases hc1 : a0 < 0
    · rw [if_pos hc1] at h
      refine fj_bt rfl (decide_eq_true hc1) ?_
      refine fj_blk 1 (38, 15, [some (.inl a0)], [(.inl 0)], M) rfl ?_
      cases h
      exact fj_rz rfl rfl (Or.inl rfl)
    · rw [if_neg hc1] at h
      refine fj_bf rfl (decide_eq_false hc1) ?_
      refine fj_blk 2 (38, 7, [some (.inl a0)], [(.inl 6), (.inl a0)], M) rfl ?_
      by_cases hc2 : 6 ≤ a0
      · rw [if_pos hc2] at h
        refine fj_bt rfl (decide_eq_true hc2) ?_
        refine fj_blk 1 (38, 15, [some (.inl a0)], [(.inl 0)], M) rfl ?_
        cases h
        exact fj_rz rfl rfl (Or.inl rfl)
      · rw [if_neg hc2] at h
        refine fj_bf rfl (decide_eq_false hc2) ?_
        refine fj_blk 2 (38, 15, [some (.inl a0)], [(.inl 1)], M) rfl ?_
        cases h
        exact fj_rz rfl rfl (Or.inr rfl)
/-- X5_hasRoom -/
def dm_40 (a1 : Int32) (M : fj_M) : Option (Int32 × fj_M) := (if a1 < 0 then some (0, M) else (if 6 ≤ a1 then some (0, M) else (if a1 < 0 ∨ 6 ≤ a1.toNatClampNeg then none else (if a1 < 0 ∨ 6 ≤ a1.toNatClampNeg then none else (if (M.1 10 a1.toNatClampNeg 2) ≤ (M.1 10 a1.toNatClampNeg 1) then some (0, M) else some (1, M))))))
set_option maxRecDepth 40000 in
theorem de_40 (X : fj_X) (a1 : Int32) (M : fj_M) (r : (Int32 × fj_M)) (h : dm_40 a1 M = some r) : fj_ev X (40, 0, [some (.inr (0, 0)), some (.inl a1)], [], M) (some r.1, r.2) := by
    unfold dm_40 at h
    refine fj_blk 1 (40, 1, [some (.inr (0, 0)), some (.inl a1)], [(.inl a1)], M) rfl ?_
    by_cases hc1 : a1 < 0
    · rw [if_pos hc1] at h
      refine fj_bt rfl (decide_eq_true hc1) ?_
      refine fj_blk 1 (40, 36, [some (.inr (0, 0)), some (.inl a1)], [(.inl 0)], M) rfl ?_
      cases h
      exact fj_rz rfl rfl (Or.inl rfl)
    · rw [if_neg hc1] at h
      refine fj_bf rfl (decide_eq_false hc1) ?_
      refine fj_blk 2 (40, 7, [some (.inr (0, 0)), some (.inl a1)], [(.inl 6), (.inl a1)], M) rfl ?_
      by_cases hc2 : 6 ≤ a1
      · rw [if_pos hc2] at h
        refine fj_bt rfl (decide_eq_true hc2) ?_
        refine fj_blk 1 (40, 36, [some (.inr (0, 0)), some (.inl a1)], [(.inl 0)], M) rfl ?_
        cases h
        exact fj_rz rfl rfl (Or.inl rfl)
      · rw [if_neg hc2] at h
        refine fj_bf rfl (decide_eq_false hc2) ?_
        refine fj_blk 3 (40, 15, [some (.inr (0, 0)), some (.inl a1)], [(.inl a1), (.inr (5, 0))], M) rfl ?_
        by_cases hc3 : a1 < 0 ∨ 6 ≤ a1.toNatClampNeg
        · rw [if_pos hc3] at h
          cases h
        rw [if_neg hc3] at h
        refine fj_aal rfl rfl hc3 ?_
        refine fj_blk 4 (40, 24, [some (.inr (0, 0)), some (.inl a1)], [(.inl a1), (.inr (5, 0)), (.inl (M.1 10 a1.toNatClampNeg 1))], M) rfl ?_
        by_cases hc4 : a1 < 0 ∨ 6 ≤ a1.toNatClampNeg
        · rw [if_pos hc4] at h
          cases h
        rw [if_neg hc4] at h
        refine fj_aal rfl rfl hc4 ?_
        refine fj_blk 1 (40, 28, [some (.inr (0, 0)), some (.inl a1)], [(.inl (M.1 10 a1.toNatClampNeg 2)), (.inl (M.1 10 a1.toNatClampNeg 1))], M) rfl ?_
        by_cases hc5 : (M.1 10 a1.toNatClampNeg 2) ≤ (M.1 10 a1.toNatClampNeg 1)
        · rw [if_pos hc5] at h
          refine fj_bt rfl (decide_eq_true hc5) ?_
          refine fj_blk 1 (40, 36, [some (.inr (0, 0)), some (.inl a1)], [(.inl 0)], M) rfl ?_
          cases h
          exact fj_rz rfl rfl (Or.inl rfl)
        · rw [if_neg hc5] at h
          refine fj_bf rfl (decide_eq_false hc5) ?_
          refine fj_blk 2 (40, 36, [some (.inr (0, 0)), some (.inl a1)], [(.inl 1)], M) rfl ?_
          cases h
          exact fj_rz rfl rfl (Or.inr rfl)
/-- X5_hasInts -/
def dm_41 (a1 : Int32) (M : fj_M) : Option (Int32 × fj_M) := (if a1 < 0 then some (0, M) else (if 6 ≤ a1 then some (0, M) else (if a1 < 0 ∨ 6 ≤ a1.toNatClampNeg then none else (if (M.1 10 a1.toNatClampNeg 1) ≤ 0 then some (0, M) else some (1, M)))))
set_option maxRecDepth 40000 in
theorem de_41 (X : fj_X) (a1 : Int32) (M : fj_M) (r : (Int32 × fj_M)) (h : dm_41 a1 M = some r) : fj_ev X (41, 0, [some (.inr (0, 0)), some (.inl a1)], [], M) (some r.1, r.2) := by
    unfold dm_41 at h
    refine fj_blk 1 (41, 1, [some (.inr (0, 0)), some (.inl a1)], [(.inl a1)], M) rfl ?_
    by_cases hc1 : a1 < 0
    · rw [if_pos hc1] at h
      refine fj_bt rfl (decide_eq_true hc1) ?_
      refine fj_blk 1 (41, 27, [some (.inr (0, 0)), some (.inl a1)], [(.inl 0)], M) rfl ?_
      cases h
      exact fj_rz rfl rfl (Or.inl rfl)
    · rw [if_neg hc1] at h
      refine fj_bf rfl (decide_eq_false hc1) ?_
      refine fj_blk 2 (41, 7, [some (.inr (0, 0)), some (.inl a1)], [(.inl 6), (.inl a1)], M) rfl ?_
      by_cases hc2 : 6 ≤ a1
      · rw [if_pos hc2] at h
        refine fj_bt rfl (decide_eq_true hc2) ?_
        refine fj_blk 1 (41, 27, [some (.inr (0, 0)), some (.inl a1)], [(.inl 0)], M) rfl ?_
        cases h
        exact fj_rz rfl rfl (Or.inl rfl)
      · rw [if_neg hc2] at h
        refine fj_bf rfl (decide_eq_false hc2) ?_
        refine fj_blk 3 (41, 15, [some (.inr (0, 0)), some (.inl a1)], [(.inl a1), (.inr (5, 0))], M) rfl ?_
        by_cases hc3 : a1 < 0 ∨ 6 ≤ a1.toNatClampNeg
        · rw [if_pos hc3] at h
          cases h
        rw [if_neg hc3] at h
        refine fj_aal rfl rfl hc3 ?_
        refine fj_blk 1 (41, 19, [some (.inr (0, 0)), some (.inl a1)], [(.inl (M.1 10 a1.toNatClampNeg 1))], M) rfl ?_
        by_cases hc4 : (M.1 10 a1.toNatClampNeg 1) ≤ 0
        · rw [if_pos hc4] at h
          refine fj_bt rfl (decide_eq_true hc4) ?_
          refine fj_blk 1 (41, 27, [some (.inr (0, 0)), some (.inl a1)], [(.inl 0)], M) rfl ?_
          cases h
          exact fj_rz rfl rfl (Or.inl rfl)
        · rw [if_neg hc4] at h
          refine fj_bf rfl (decide_eq_false hc4) ?_
          refine fj_blk 2 (41, 27, [some (.inr (0, 0)), some (.inl a1)], [(.inl 1)], M) rfl ?_
          cases h
          exact fj_rz rfl rfl (Or.inr rfl)
/-- X5_isLive -/
def dm_39 (a1 : Int32) (M : fj_M) : Option (Int32 × fj_M) := (if a1 < 0 then some (0, M) else (if 12 ≤ a1 then some (0, M) else (if a1 < 0 ∨ 12 ≤ a1.toNatClampNeg then none else ((dm_6 a1.toNatClampNeg M).bind fun q4 => (if q4.1 = 0 then some (0, q4.2) else some (1, q4.2))))))
set_option maxRecDepth 40000 in
theorem de_39 (X : fj_X) (a1 : Int32) (M : fj_M) (r : (Int32 × fj_M)) (h : dm_39 a1 M = some r) : fj_ev X (39, 0, [some (.inr (0, 0)), some (.inl a1)], [], M) (some r.1, r.2) := by
    unfold dm_39 at h
    refine fj_blk 1 (39, 1, [some (.inr (0, 0)), some (.inl a1)], [(.inl a1)], M) rfl ?_
    by_cases hc1 : a1 < 0
    · rw [if_pos hc1] at h
      refine fj_bt rfl (decide_eq_true hc1) ?_
      refine fj_blk 1 (39, 27, [some (.inr (0, 0)), some (.inl a1)], [(.inl 0)], M) rfl ?_
      cases h
      exact fj_rz rfl rfl (Or.inl rfl)
    · rw [if_neg hc1] at h
      refine fj_bf rfl (decide_eq_false hc1) ?_
      refine fj_blk 2 (39, 7, [some (.inr (0, 0)), some (.inl a1)], [(.inl 12), (.inl a1)], M) rfl ?_
      by_cases hc2 : 12 ≤ a1
      · rw [if_pos hc2] at h
        refine fj_bt rfl (decide_eq_true hc2) ?_
        refine fj_blk 1 (39, 27, [some (.inr (0, 0)), some (.inl a1)], [(.inl 0)], M) rfl ?_
        cases h
        exact fj_rz rfl rfl (Or.inl rfl)
      · rw [if_neg hc2] at h
        refine fj_bf rfl (decide_eq_false hc2) ?_
        refine fj_blk 3 (39, 15, [some (.inr (0, 0)), some (.inl a1)], [(.inl a1), (.inr (4, 0))], M) rfl ?_
        by_cases hc3 : a1 < 0 ∨ 12 ≤ a1.toNatClampNeg
        · rw [if_pos hc3] at h
          cases h
        rw [if_neg hc3] at h
        refine fj_aal rfl rfl hc3 ?_
        cases hq4 : dm_6 a1.toNatClampNeg M with
        | none => rw [hq4] at h; cases h
        | some q4 =>
          rw [hq4, Option.bind_some] at h
          refine fj_cl rfl (de_6 X a1.toNatClampNeg M _ hq4) ?_
          by_cases hc5 : q4.1 = 0
          · rw [if_pos hc5] at h
            refine fj_bt rfl (decide_eq_true hc5) ?_
            refine fj_blk 1 (39, 27, [some (.inr (0, 0)), some (.inl a1)], [(.inl 0)], q4.2) rfl ?_
            cases h
            exact fj_rz rfl rfl (Or.inl rfl)
          · rw [if_neg hc5] at h
            refine fj_bf rfl (decide_eq_false hc5) ?_
            refine fj_blk 2 (39, 27, [some (.inr (0, 0)), some (.inl a1)], [(.inl 1)], q4.2) rfl ?_
            cases h
            exact fj_rz rfl rfl (Or.inr rfl)
/-- X5_isThere -/
def dm_48 (a1 : Nat) (M : fj_M) : Option (Int32 × fj_M) := (if (M.1 7 a1 2) = 2 then ((dm_40 (M.1 7 a1 10) M).bind fun q2 => (if q2.1 = 0 ∨ q2.1 = 1 then some (q2.1, q2.2) else none)) else (if (M.1 7 a1 2) = 3 then ((dm_41 (M.1 7 a1 10) M).bind fun q5 => (if q5.1 = 0 ∨ q5.1 = 1 then some (q5.1, q5.2) else none)) else (if (M.1 7 a1 2) = 4 then ((dm_41 (M.1 7 a1 10) M).bind fun q8 => (if q8.1 = 0 then ((dm_41 (q8.2.1 7 a1 11) q8.2).bind fun q10 => (if q10.1 = 0 then some (0, q10.2) else some (1, q10.2))) else some (1, q8.2))) else (if (M.1 7 a1 2) = 5 then some (0, M) else (if (M.1 7 a1 2) = 6 then ((dm_39 (M.1 7 a1 10) M).bind fun q14 => (if q14.1 = 0 then some (1, q14.2) else some (0, q14.2))) else some (0, M))))))
set_option maxRecDepth 40000 in
theorem de_48 (X : fj_X) (a1 : Nat) (M : fj_M) (r : (Int32 × fj_M)) (h : dm_48 a1 M = some r) : fj_ev X (48, 0, [some (.inr (0, 0)), some (.inr (7, a1))], [], M) (some r.1, r.2) := by
    unfold dm_48 at h
    refine fj_blk 2 (48, 4, [some (.inr (0, 0)), some (.inr (7, a1))], [(.inl (M.1 7 a1 2))], M) rfl ?_
    by_cases hc1 : (M.1 7 a1 2) = 2
    · rw [if_pos hc1] at h
      refine fj_swg (t := 40) rfl (by rw [hc1]; rfl) ?_
      refine fj_blk 3 (48, 45, [some (.inr (0, 0)), some (.inr (7, a1))], [(.inl (M.1 7 a1 10)), (.inr (0, 0))], M) rfl ?_
      cases hq2 : dm_40 (M.1 7 a1 10) M with
      | none => rw [hq2] at h; cases h
      | some q2 =>
        rw [hq2, Option.bind_some] at h
        refine fj_cl rfl (de_40 X (M.1 7 a1 10) M _ hq2) ?_
        by_cases hc3 : q2.1 = 0 ∨ q2.1 = 1
        · rw [if_pos hc3] at h
          cases h
          exact fj_rz rfl rfl hc3
        · rw [if_neg hc3] at h
          cases h
    · rw [if_neg hc1] at h
      by_cases hc4 : (M.1 7 a1 2) = 3
      · rw [if_pos hc4] at h
        refine fj_swg (t := 49) rfl (by rw [hc4]; rfl) ?_
        refine fj_blk 3 (48, 54, [some (.inr (0, 0)), some (.inr (7, a1))], [(.inl (M.1 7 a1 10)), (.inr (0, 0))], M) rfl ?_
        cases hq5 : dm_41 (M.1 7 a1 10) M with
        | none => rw [hq5] at h; cases h
        | some q5 =>
          rw [hq5, Option.bind_some] at h
          refine fj_cl rfl (de_41 X (M.1 7 a1 10) M _ hq5) ?_
          by_cases hc6 : q5.1 = 0 ∨ q5.1 = 1
          · rw [if_pos hc6] at h
            cases h
            exact fj_rz rfl rfl hc6
          · rw [if_neg hc6] at h
            cases h
      · rw [if_neg hc4] at h
        by_cases hc7 : (M.1 7 a1 2) = 4
        · rw [if_pos hc7] at h
          refine fj_swg (t := 58) rfl (by rw [hc7]; rfl) ?_
          refine fj_blk 3 (48, 63, [some (.inr (0, 0)), some (.inr (7, a1))], [(.inl (M.1 7 a1 10)), (.inr (0, 0))], M) rfl ?_
          cases hq8 : dm_41 (M.1 7 a1 10) M with
          | none => rw [hq8] at h; cases h
          | some q8 =>
            rw [hq8, Option.bind_some] at h
            refine fj_cl rfl (de_41 X (M.1 7 a1 10) M _ hq8) ?_
            by_cases hc9 : q8.1 = 0
            · rw [if_pos hc9] at h
              refine fj_bf rfl (fj_nf hc9) ?_
              refine fj_blk 3 (48, 74, [some (.inr (0, 0)), some (.inr (7, a1))], [(.inl (q8.2.1 7 a1 11)), (.inr (0, 0))], q8.2) rfl ?_
              cases hq10 : dm_41 (q8.2.1 7 a1 11) q8.2 with
              | none => rw [hq10] at h; cases h
              | some q10 =>
                rw [hq10, Option.bind_some] at h
                refine fj_cl rfl (de_41 X (q8.2.1 7 a1 11) q8.2 _ hq10) ?_
                by_cases hc11 : q10.1 = 0
                · rw [if_pos hc11] at h
                  refine fj_bt rfl (decide_eq_true hc11) ?_
                  refine fj_blk 1 (48, 85, [some (.inr (0, 0)), some (.inr (7, a1))], [(.inl 0)], q10.2) rfl ?_
                  cases h
                  exact fj_rz rfl rfl (Or.inl rfl)
                · rw [if_neg hc11] at h
                  refine fj_bf rfl (decide_eq_false hc11) ?_
                  refine fj_blk 2 (48, 85, [some (.inr (0, 0)), some (.inr (7, a1))], [(.inl 1)], q10.2) rfl ?_
                  cases h
                  exact fj_rz rfl rfl (Or.inr rfl)
            · rw [if_neg hc9] at h
              refine fj_bt rfl (fj_nt hc9) ?_
              refine fj_blk 2 (48, 85, [some (.inr (0, 0)), some (.inr (7, a1))], [(.inl 1)], q8.2) rfl ?_
              cases h
              exact fj_rz rfl rfl (Or.inr rfl)
        · rw [if_neg hc7] at h
          by_cases hc12 : (M.1 7 a1 2) = 5
          · rw [if_pos hc12] at h
            refine fj_swg (t := 103) rfl (by rw [hc12]; rfl) ?_
            refine fj_blk 1 (48, 104, [some (.inr (0, 0)), some (.inr (7, a1))], [(.inl 0)], M) rfl ?_
            cases h
            exact fj_rz rfl rfl (Or.inl rfl)
          · rw [if_neg hc12] at h
            by_cases hc13 : (M.1 7 a1 2) = 6
            · rw [if_pos hc13] at h
              refine fj_swg (t := 86) rfl (by rw [hc13]; rfl) ?_
              refine fj_blk 3 (48, 91, [some (.inr (0, 0)), some (.inr (7, a1))], [(.inl (M.1 7 a1 10)), (.inr (0, 0))], M) rfl ?_
              cases hq14 : dm_39 (M.1 7 a1 10) M with
              | none => rw [hq14] at h; cases h
              | some q14 =>
                rw [hq14, Option.bind_some] at h
                refine fj_cl rfl (de_39 X (M.1 7 a1 10) M _ hq14) ?_
                by_cases hc15 : q14.1 = 0
                · rw [if_pos hc15] at h
                  refine fj_bf rfl (fj_nf hc15) ?_
                  refine fj_blk 2 (48, 102, [some (.inr (0, 0)), some (.inr (7, a1))], [(.inl 1)], q14.2) rfl ?_
                  cases h
                  exact fj_rz rfl rfl (Or.inr rfl)
                · rw [if_neg hc15] at h
                  refine fj_bt rfl (fj_nt hc15) ?_
                  refine fj_blk 1 (48, 102, [some (.inr (0, 0)), some (.inr (7, a1))], [(.inl 0)], q14.2) rfl ?_
                  cases h
                  exact fj_rz rfl rfl (Or.inl rfl)
            · rw [if_neg hc13] at h
              refine fj_swg (t := 103) rfl (by simp only [fj_sw, hc1, hc4, hc7, hc12, hc13, if_false]) ?_
              refine fj_blk 1 (48, 104, [some (.inr (0, 0)), some (.inr (7, a1))], [(.inl 0)], M) rfl ?_
              cases h
              exact fj_rz rfl rfl (Or.inl rfl)
def dm_47_31  (rec2 : Int32 → fj_M → Option fj_M) (a1 : Int32) (M : fj_M) : Option fj_M := rec2 (a1 + 1) M
set_option maxRecDepth 40000 in
theorem de_47_31 (X : fj_X) (rec2 : Int32 → fj_M → Option fj_M) (hrec2 : ∀ (a1 : Int32) (M : fj_M) (r : fj_M), rec2 a1 M = some r → fj_ev X (47, 2, [some (.inr (0, 0)), some (.inl a1)], [], M) (none, r)) (a1 : Int32) (M : fj_M) (r : fj_M) (h : dm_47_31 rec2 a1 M = some r) : fj_ev X (47, 31, [some (.inr (0, 0)), some (.inl a1)], [], M) (none, r) := by
    unfold dm_47_31 at h
    refine fj_blk 2 (47, 2, [some (.inr (0, 0)), some (.inl (a1 + 1))], [], M) rfl ?_
    exact hrec2 (a1 + 1) M r h
def dm_47_2  : Nat → Int32 → fj_M → Option fj_M
  | 0, _, _ => none
  | n + 1, a1, M => (if 12 ≤ a1 then some M else (if a1 < 0 ∨ 12 ≤ a1.toNatClampNeg then none else ((dm_48 a1.toNatClampNeg M).bind fun q3 => (if q3.1 = 0 then dm_47_31 (dm_47_2 n) a1 q3.2 else (if a1 < 0 ∨ 12 ≤ a1.toNatClampNeg then none else dm_47_31 (dm_47_2 n) a1 ((fj_u1 q3.2.1 7 a1.toNatClampNeg 2 1), q3.2.2))))))
set_option maxRecDepth 40000 in
theorem de_47_2 (X : fj_X) : ∀ (n : Nat) (a1 : Int32) (M : fj_M) (r : fj_M), dm_47_2 n a1 M = some r → fj_ev X (47, 2, [some (.inr (0, 0)), some (.inl a1)], [], M) (none, r)
  | 0, _, _, r, h => by cases h
  | n + 1, a1, M, r, h => by
    unfold dm_47_2 at h
    refine fj_blk 2 (47, 5, [some (.inr (0, 0)), some (.inl a1)], [(.inl 12), (.inl a1)], M) rfl ?_
    by_cases hc1 : 12 ≤ a1
    · rw [if_pos hc1] at h
      refine fj_bt rfl (decide_eq_true hc1) ?_
      cases h
      exact fj_rv rfl rfl
    · rw [if_neg hc1] at h
      refine fj_bf rfl (decide_eq_false hc1) ?_
      refine fj_blk 4 (47, 14, [some (.inr (0, 0)), some (.inl a1)], [(.inl a1), (.inr (4, 0)), (.inr (0, 0))], M) rfl ?_
      by_cases hc2 : a1 < 0 ∨ 12 ≤ a1.toNatClampNeg
      · rw [if_pos hc2] at h
        cases h
      rw [if_neg hc2] at h
      refine fj_aal rfl rfl hc2 ?_
      cases hq3 : dm_48 a1.toNatClampNeg M with
      | none => rw [hq3] at h; cases h
      | some q3 =>
        rw [hq3, Option.bind_some] at h
        refine fj_cl rfl (de_48 X a1.toNatClampNeg M _ hq3) ?_
        by_cases hc4 : q3.1 = 0
        · rw [if_pos hc4] at h
          refine fj_bt rfl (decide_eq_true hc4) ?_
          exact de_47_31 X (dm_47_2 n) (de_47_2 X n) a1 q3.2 r h
        · rw [if_neg hc4] at h
          refine fj_bf rfl (decide_eq_false hc4) ?_
          refine fj_blk 3 (47, 26, [some (.inr (0, 0)), some (.inl a1)], [(.inl a1), (.inr (4, 0))], q3.2) rfl ?_
          by_cases hc5 : a1 < 0 ∨ 12 ≤ a1.toNatClampNeg
          · rw [if_pos hc5] at h
            cases h
          rw [if_neg hc5] at h
          refine fj_aal rfl rfl hc5 ?_
          refine fj_blk 2 (47, 31, [some (.inr (0, 0)), some (.inl a1)], [], ((fj_u1 q3.2.1 7 a1.toNatClampNeg 2 1), q3.2.2)) rfl ?_
          exact de_47_31 X (dm_47_2 n) (de_47_2 X n) a1 ((fj_u1 q3.2.1 7 a1.toNatClampNeg 2 1), q3.2.2) r h
/-- X5_wakeWaiting -/
def dm_47  (M : fj_M) : Option fj_M := dm_47_2 40 0 M
set_option maxRecDepth 40000 in
theorem de_47 (X : fj_X)  (M : fj_M) (r : fj_M) (h : dm_47  M = some r) : fj_ev X (47, 0, [some (.inr (0, 0)), none], [], M) (none, r) := by
    unfold dm_47 at h
    refine fj_blk 2 (47, 2, [some (.inr (0, 0)), some (.inl 0)], [], M) rfl ?_
    exact de_47_2 X 40 0 M r h
/-- X5_size -/
def dm_21 (a1 : Int32) (a2 : Int32) (M : fj_M) : Option (Int32 × fj_M) := ((dm_38 a1 M).bind fun q1 => (if q1.1 = 0 then some ((-1), q1.2) else (if a1 < 0 ∨ 6 ≤ a1.toNatClampNeg then none else (if a2 < 1 then some ((-2), q1.2) else (if 8 < a2 then some ((-2), q1.2) else (if (q1.2.1 10 a1.toNatClampNeg 1) ≤ a2 then ((dm_47 ((fj_u1 q1.2.1 10 a1.toNatClampNeg 2 a2), q1.2.2)).bind fun q7 => some (q1.2.1 10 a1.toNatClampNeg 2, q7)) else some ((-2), q1.2)))))))
set_option maxRecDepth 40000 in
theorem de_21 (X : fj_X) (a1 : Int32) (a2 : Int32) (M : fj_M) (r : (Int32 × fj_M)) (h : dm_21 a1 a2 M = some r) : fj_ev X (21, 0, [some (.inr (0, 0)), some (.inl a1), some (.inl a2), none, none], [], M) (some r.1, r.2) := by
    unfold dm_21 at h
    refine fj_blk 1 (21, 1, [some (.inr (0, 0)), some (.inl a1), some (.inl a2), none, none], [(.inl a1)], M) rfl ?_
    cases hq1 : dm_38 a1 M with
    | none => rw [hq1] at h; cases h
    | some q1 =>
      rw [hq1, Option.bind_some] at h
      refine fj_cl rfl (de_38 X a1 M _ hq1) ?_
      by_cases hc2 : q1.1 = 0
      · rw [if_pos hc2] at h
        refine fj_bf rfl (fj_nf hc2) ?_
        refine fj_blk 1 (21, 8, [some (.inr (0, 0)), some (.inl a1), some (.inl a2), none, none], [(.inl (-1))], q1.2) rfl ?_
        cases h
        exact fj_ri rfl rfl
      · rw [if_neg hc2] at h
        refine fj_bt rfl (fj_nt hc2) ?_
        refine fj_blk 3 (21, 14, [some (.inr (0, 0)), some (.inl a1), some (.inl a2), none, none], [(.inl a1), (.inr (5, 0))], q1.2) rfl ?_
        by_cases hc3 : a1 < 0 ∨ 6 ≤ a1.toNatClampNeg
        · rw [if_pos hc3] at h
          cases h
        rw [if_neg hc3] at h
        refine fj_aal rfl rfl hc3 ?_
        refine fj_blk 3 (21, 18, [some (.inr (0, 0)), some (.inl a1), some (.inl a2), some (.inr (10, a1.toNatClampNeg)), none], [(.inl 1), (.inl a2)], q1.2) rfl ?_
        by_cases hc4 : a2 < 1
        · rw [if_pos hc4] at h
          refine fj_bt rfl (decide_eq_true hc4) ?_
          refine fj_blk 1 (21, 37, [some (.inr (0, 0)), some (.inl a1), some (.inl a2), some (.inr (10, a1.toNatClampNeg)), none], [(.inl (-2))], q1.2) rfl ?_
          cases h
          exact fj_ri rfl rfl
        · rw [if_neg hc4] at h
          refine fj_bf rfl (decide_eq_false hc4) ?_
          refine fj_blk 2 (21, 24, [some (.inr (0, 0)), some (.inl a1), some (.inl a2), some (.inr (10, a1.toNatClampNeg)), none], [(.inl 8), (.inl a2)], q1.2) rfl ?_
          by_cases hc5 : 8 < a2
          · rw [if_pos hc5] at h
            refine fj_bt rfl (decide_eq_true hc5) ?_
            refine fj_blk 1 (21, 37, [some (.inr (0, 0)), some (.inl a1), some (.inl a2), some (.inr (10, a1.toNatClampNeg)), none], [(.inl (-2))], q1.2) rfl ?_
            cases h
            exact fj_ri rfl rfl
          · rw [if_neg hc5] at h
            refine fj_bf rfl (decide_eq_false hc5) ?_
            refine fj_blk 3 (21, 32, [some (.inr (0, 0)), some (.inl a1), some (.inl a2), some (.inr (10, a1.toNatClampNeg)), none], [(.inl (q1.2.1 10 a1.toNatClampNeg 1)), (.inl a2)], q1.2) rfl ?_
            by_cases hc6 : (q1.2.1 10 a1.toNatClampNeg 1) ≤ a2
            · rw [if_pos hc6] at h
              refine fj_bt rfl (decide_eq_true hc6) ?_
              refine fj_blk 7 (21, 50, [some (.inr (0, 0)), some (.inl a1), some (.inl a2), some (.inr (10, a1.toNatClampNeg)), some (.inl (q1.2.1 10 a1.toNatClampNeg 2))], [(.inr (0, 0))], ((fj_u1 q1.2.1 10 a1.toNatClampNeg 2 a2), q1.2.2)) rfl ?_
              cases hq7 : dm_47 ((fj_u1 q1.2.1 10 a1.toNatClampNeg 2 a2), q1.2.2) with
              | none => rw [hq7] at h; cases h
              | some q7 =>
                rw [hq7, Option.bind_some] at h
                refine fj_cl rfl (de_47 X ((fj_u1 q1.2.1 10 a1.toNatClampNeg 2 a2), q1.2.2) _ hq7) ?_
                refine fj_blk 1 (21, 55, [some (.inr (0, 0)), some (.inl a1), some (.inl a2), some (.inr (10, a1.toNatClampNeg)), some (.inl (q1.2.1 10 a1.toNatClampNeg 2))], [(.inl (q1.2.1 10 a1.toNatClampNeg 2))], q7) rfl ?_
                cases h
                exact fj_ri rfl rfl
            · rw [if_neg hc6] at h
              refine fj_bf rfl (decide_eq_false hc6) ?_
              refine fj_blk 1 (21, 37, [some (.inr (0, 0)), some (.inl a1), some (.inl a2), some (.inr (10, a1.toNatClampNeg)), none], [(.inl (-2))], q1.2) rfl ?_
              cases h
              exact fj_ri rfl rfl
/-- X5_put -/
def dm_22 (a1 : Int32) (a2 : Int32) (M : fj_M) : Option (Int32 × fj_M) := ((dm_38 a1 M).bind fun q1 => (if q1.1 = 0 then some ((-1), q1.2) else ((dm_40 a1 q1.2).bind fun q3 => (if q3.1 = 0 then some ((-4), q3.2) else (if a1 < 0 ∨ 6 ≤ a1.toNatClampNeg then none else ((dm_0 a1.toNatClampNeg a2 q3.2).bind fun q6 => ((dm_47 q6).bind fun q7 => (if a1 < 0 ∨ 6 ≤ a1.toNatClampNeg then none else some (q7.1 10 a1.toNatClampNeg 1, q7)))))))))
set_option maxRecDepth 40000 in
theorem de_22 (X : fj_X) (a1 : Int32) (a2 : Int32) (M : fj_M) (r : (Int32 × fj_M)) (h : dm_22 a1 a2 M = some r) : fj_ev X (22, 0, [some (.inr (0, 0)), some (.inl a1), some (.inl a2)], [], M) (some r.1, r.2) := by
    unfold dm_22 at h
    refine fj_blk 1 (22, 1, [some (.inr (0, 0)), some (.inl a1), some (.inl a2)], [(.inl a1)], M) rfl ?_
    cases hq1 : dm_38 a1 M with
    | none => rw [hq1] at h; cases h
    | some q1 =>
      rw [hq1, Option.bind_some] at h
      refine fj_cl rfl (de_38 X a1 M _ hq1) ?_
      by_cases hc2 : q1.1 = 0
      · rw [if_pos hc2] at h
        refine fj_bf rfl (fj_nf hc2) ?_
        refine fj_blk 1 (22, 8, [some (.inr (0, 0)), some (.inl a1), some (.inl a2)], [(.inl (-1))], q1.2) rfl ?_
        cases h
        exact fj_ri rfl rfl
      · rw [if_neg hc2] at h
        refine fj_bt rfl (fj_nt hc2) ?_
        refine fj_blk 2 (22, 11, [some (.inr (0, 0)), some (.inl a1), some (.inl a2)], [(.inl a1), (.inr (0, 0))], q1.2) rfl ?_
        cases hq3 : dm_40 a1 q1.2 with
        | none => rw [hq3] at h; cases h
        | some q3 =>
          rw [hq3, Option.bind_some] at h
          refine fj_cl rfl (de_40 X a1 q1.2 _ hq3) ?_
          by_cases hc4 : q3.1 = 0
          · rw [if_pos hc4] at h
            refine fj_bf rfl (fj_nf hc4) ?_
            refine fj_blk 1 (22, 19, [some (.inr (0, 0)), some (.inl a1), some (.inl a2)], [(.inl (-4))], q3.2) rfl ?_
            cases h
            exact fj_ri rfl rfl
          · rw [if_neg hc4] at h
            refine fj_bt rfl (fj_nt hc4) ?_
            refine fj_blk 3 (22, 25, [some (.inr (0, 0)), some (.inl a1), some (.inl a2)], [(.inl a1), (.inr (5, 0))], q3.2) rfl ?_
            by_cases hc5 : a1 < 0 ∨ 6 ≤ a1.toNatClampNeg
            · rw [if_pos hc5] at h
              cases h
            rw [if_neg hc5] at h
            refine fj_aal rfl rfl hc5 ?_
            refine fj_blk 1 (22, 27, [some (.inr (0, 0)), some (.inl a1), some (.inl a2)], [(.inl a2), (.inr (10, a1.toNatClampNeg))], q3.2) rfl ?_
            cases hq6 : dm_0 a1.toNatClampNeg a2 q3.2 with
            | none => rw [hq6] at h; cases h
            | some q6 =>
              rw [hq6, Option.bind_some] at h
              refine fj_cl rfl (de_0 X a1.toNatClampNeg a2 q3.2 _ hq6) ?_
              refine fj_blk 1 (22, 31, [some (.inr (0, 0)), some (.inl a1), some (.inl a2)], [(.inr (0, 0))], q6) rfl ?_
              cases hq7 : dm_47 q6 with
              | none => rw [hq7] at h; cases h
              | some q7 =>
                rw [hq7, Option.bind_some] at h
                refine fj_cl rfl (de_47 X q6 _ hq7) ?_
                refine fj_blk 3 (22, 39, [some (.inr (0, 0)), some (.inl a1), some (.inl a2)], [(.inl a1), (.inr (5, 0))], q7) rfl ?_
                by_cases hc8 : a1 < 0 ∨ 6 ≤ a1.toNatClampNeg
                · rw [if_pos hc8] at h
                  cases h
                rw [if_neg hc8] at h
                refine fj_aal rfl rfl hc8 ?_
                refine fj_blk 1 (22, 43, [some (.inr (0, 0)), some (.inl a1), some (.inl a2)], [(.inl (q7.1 10 a1.toNatClampNeg 1))], q7) rfl ?_
                cases h
                exact fj_ri rfl rfl
/-- X5_take -/
def dm_23 (a1 : Int32) (M : fj_M) : Option (Int32 × fj_M) := ((dm_41 a1 M).bind fun q1 => (if q1.1 = 0 then some (0, q1.2) else (if a1 < 0 ∨ 6 ≤ a1.toNatClampNeg then none else ((dm_1 a1.toNatClampNeg q1.2).bind fun q4 => ((dm_47 q4.2).bind fun q5 => some (q4.1, q5))))))
set_option maxRecDepth 40000 in
theorem de_23 (X : fj_X) (a1 : Int32) (M : fj_M) (r : (Int32 × fj_M)) (h : dm_23 a1 M = some r) : fj_ev X (23, 0, [some (.inr (0, 0)), some (.inl a1), none], [], M) (some r.1, r.2) := by
    unfold dm_23 at h
    refine fj_blk 2 (23, 2, [some (.inr (0, 0)), some (.inl a1), none], [(.inl a1), (.inr (0, 0))], M) rfl ?_
    cases hq1 : dm_41 a1 M with
    | none => rw [hq1] at h; cases h
    | some q1 =>
      rw [hq1, Option.bind_some] at h
      refine fj_cl rfl (de_41 X a1 M _ hq1) ?_
      by_cases hc2 : q1.1 = 0
      · rw [if_pos hc2] at h
        refine fj_bf rfl (fj_nf hc2) ?_
        refine fj_blk 1 (23, 9, [some (.inr (0, 0)), some (.inl a1), none], [(.inl 0)], q1.2) rfl ?_
        cases h
        exact fj_ri rfl rfl
      · rw [if_neg hc2] at h
        refine fj_bt rfl (fj_nt hc2) ?_
        refine fj_blk 3 (23, 15, [some (.inr (0, 0)), some (.inl a1), none], [(.inl a1), (.inr (5, 0))], q1.2) rfl ?_
        by_cases hc3 : a1 < 0 ∨ 6 ≤ a1.toNatClampNeg
        · rw [if_pos hc3] at h
          cases h
        rw [if_neg hc3] at h
        refine fj_aal rfl rfl hc3 ?_
        cases hq4 : dm_1 a1.toNatClampNeg q1.2 with
        | none => rw [hq4] at h; cases h
        | some q4 =>
          rw [hq4, Option.bind_some] at h
          refine fj_cl rfl (de_1 X a1.toNatClampNeg q1.2 _ hq4) ?_
          refine fj_blk 2 (23, 21, [some (.inr (0, 0)), some (.inl a1), some (.inl q4.1)], [(.inr (0, 0))], q4.2) rfl ?_
          cases hq5 : dm_47 q4.2 with
          | none => rw [hq5] at h; cases h
          | some q5 =>
            rw [hq5, Option.bind_some] at h
            refine fj_cl rfl (de_47 X q4.2 _ hq5) ?_
            refine fj_blk 1 (23, 25, [some (.inr (0, 0)), some (.inl a1), some (.inl q4.1)], [(.inl q4.1)], q5) rfl ?_
            cases h
            exact fj_ri rfl rfl
def dm_46_47  (rec2 : Int32 → fj_M → Option fj_M) (a1 : Int32) (M : fj_M) : Option fj_M := rec2 (a1 + 1) M
set_option maxRecDepth 40000 in
theorem de_46_47 (X : fj_X) (rec2 : Int32 → fj_M → Option fj_M) (hrec2 : ∀ (a1 : Int32) (M : fj_M) (r : fj_M), rec2 a1 M = some r → fj_ev X (46, 2, [some (.inr (0, 0)), some (.inl a1)], [], M) (none, r)) (a1 : Int32) (M : fj_M) (r : fj_M) (h : dm_46_47 rec2 a1 M = some r) : fj_ev X (46, 47, [some (.inr (0, 0)), some (.inl a1)], [], M) (none, r) := by
    unfold dm_46_47 at h
    refine fj_blk 2 (46, 2, [some (.inr (0, 0)), some (.inl (a1 + 1))], [], M) rfl ?_
    exact hrec2 (a1 + 1) M r h
def dm_46_2  : Nat → Int32 → fj_M → Option fj_M
  | 0, _, _ => none
  | n + 1, a1, M => (if 12 ≤ a1 then some M else (if a1 < 0 ∨ 12 ≤ a1.toNatClampNeg then none else (if (M.1 7 a1.toNatClampNeg 2) = 5 then (if a1 < 0 ∨ 12 ≤ a1.toNatClampNeg then none else (if (M.1 0 0 10) < (M.1 7 a1.toNatClampNeg 8) then dm_46_47 (dm_46_2 n) a1 M else (if a1 < 0 ∨ 12 ≤ a1.toNatClampNeg then none else dm_46_47 (dm_46_2 n) a1 ((fj_u1 M.1 7 a1.toNatClampNeg 2 1), M.2)))) else dm_46_47 (dm_46_2 n) a1 M)))
set_option maxRecDepth 40000 in
theorem de_46_2 (X : fj_X) : ∀ (n : Nat) (a1 : Int32) (M : fj_M) (r : fj_M), dm_46_2 n a1 M = some r → fj_ev X (46, 2, [some (.inr (0, 0)), some (.inl a1)], [], M) (none, r)
  | 0, _, _, r, h => by cases h
  | n + 1, a1, M, r, h => by
    unfold dm_46_2 at h
    refine fj_blk 2 (46, 5, [some (.inr (0, 0)), some (.inl a1)], [(.inl 12), (.inl a1)], M) rfl ?_
    by_cases hc1 : 12 ≤ a1
    · rw [if_pos hc1] at h
      refine fj_bt rfl (decide_eq_true hc1) ?_
      cases h
      exact fj_rv rfl rfl
    · rw [if_neg hc1] at h
      refine fj_bf rfl (decide_eq_false hc1) ?_
      refine fj_blk 3 (46, 13, [some (.inr (0, 0)), some (.inl a1)], [(.inl a1), (.inr (4, 0))], M) rfl ?_
      by_cases hc2 : a1 < 0 ∨ 12 ≤ a1.toNatClampNeg
      · rw [if_pos hc2] at h
        cases h
      rw [if_neg hc2] at h
      refine fj_aal rfl rfl hc2 ?_
      refine fj_blk 2 (46, 18, [some (.inr (0, 0)), some (.inl a1)], [(.inl 5), (.inl (M.1 7 a1.toNatClampNeg 2))], M) rfl ?_
      by_cases hc3 : (M.1 7 a1.toNatClampNeg 2) = 5
      · rw [if_pos hc3] at h
        refine fj_bf rfl (fj_nf hc3) ?_
        refine fj_blk 3 (46, 26, [some (.inr (0, 0)), some (.inl a1)], [(.inl a1), (.inr (4, 0))], M) rfl ?_
        by_cases hc4 : a1 < 0 ∨ 12 ≤ a1.toNatClampNeg
        · rw [if_pos hc4] at h
          cases h
        rw [if_neg hc4] at h
        refine fj_aal rfl rfl hc4 ?_
        refine fj_blk 3 (46, 34, [some (.inr (0, 0)), some (.inl a1)], [(.inl (M.1 0 0 10)), (.inl (M.1 7 a1.toNatClampNeg 8))], M) rfl ?_
        by_cases hc5 : (M.1 0 0 10) < (M.1 7 a1.toNatClampNeg 8)
        · rw [if_pos hc5] at h
          refine fj_bt rfl (decide_eq_true hc5) ?_
          exact de_46_47 X (dm_46_2 n) (de_46_2 X n) a1 M r h
        · rw [if_neg hc5] at h
          refine fj_bf rfl (decide_eq_false hc5) ?_
          refine fj_blk 3 (46, 42, [some (.inr (0, 0)), some (.inl a1)], [(.inl a1), (.inr (4, 0))], M) rfl ?_
          by_cases hc6 : a1 < 0 ∨ 12 ≤ a1.toNatClampNeg
          · rw [if_pos hc6] at h
            cases h
          rw [if_neg hc6] at h
          refine fj_aal rfl rfl hc6 ?_
          refine fj_blk 2 (46, 47, [some (.inr (0, 0)), some (.inl a1)], [], ((fj_u1 M.1 7 a1.toNatClampNeg 2 1), M.2)) rfl ?_
          exact de_46_47 X (dm_46_2 n) (de_46_2 X n) a1 ((fj_u1 M.1 7 a1.toNatClampNeg 2 1), M.2) r h
      · rw [if_neg hc3] at h
        refine fj_bt rfl (fj_nt hc3) ?_
        exact de_46_47 X (dm_46_2 n) (de_46_2 X n) a1 M r h
/-- X5_wakeSleepers -/
def dm_46  (M : fj_M) : Option fj_M := dm_46_2 40 0 M
set_option maxRecDepth 40000 in
theorem de_46 (X : fj_X)  (M : fj_M) (r : fj_M) (h : dm_46  M = some r) : fj_ev X (46, 0, [some (.inr (0, 0)), none], [], M) (none, r) := by
    unfold dm_46 at h
    refine fj_blk 2 (46, 2, [some (.inr (0, 0)), some (.inl 0)], [], M) rfl ?_
    exact de_46_2 X 40 0 M r h
def dm_50_27  : Nat → Int32 → Option fj_V → fj_M → Option (Int32 × fj_M)
  | 0, _, _, _ => none
  | n + 1, a1, o2, M => (if 12 < a1 then some (0, M) else (if (((M.1 0 0 8) + a1) - ((M.1 0 0 8) + a1) / 12 * 12) < 0 ∨ 12 ≤ (((M.1 0 0 8) + a1) - ((M.1 0 0 8) + a1) / 12 * 12).toNatClampNeg then none else (if (M.1 7 ((((M.1 0 0 8) + a1) - ((M.1 0 0 8) + a1) / 12 * 12).toNatClampNeg) 2) = 1 then some (1, ((fj_u1 (fj_u1 M.1 0 0 8 (((M.1 0 0 8) + a1) - ((M.1 0 0 8) + a1) / 12 * 12)) 0 0 9 ((fj_u1 M.1 0 0 8 (((M.1 0 0 8) + a1) - ((M.1 0 0 8) + a1) / 12 * 12)) 0 0 6)), M.2)) else dm_50_27 n (a1 + 1) (some (.inl (((M.1 0 0 8) + a1) - ((M.1 0 0 8) + a1) / 12 * 12))) M)))
set_option maxRecDepth 40000 in
theorem de_50_27 (X : fj_X) : ∀ (n : Nat) (a1 : Int32) (o2 : Option fj_V) (M : fj_M) (r : (Int32 × fj_M)), dm_50_27 n a1 o2 M = some r → fj_ev X (50, 27, [some (.inr (0, 0)), some (.inl a1), o2], [], M) (some r.1, r.2)
  | 0, _, _, _, r, h => by cases h
  | n + 1, a1, o2, M, r, h => by
    unfold dm_50_27 at h
    refine fj_blk 2 (50, 30, [some (.inr (0, 0)), some (.inl a1), o2], [(.inl 12), (.inl a1)], M) rfl ?_
    by_cases hc1 : 12 < a1
    · rw [if_pos hc1] at h
      refine fj_bt rfl (decide_eq_true hc1) ?_
      refine fj_blk 1 (50, 78, [some (.inr (0, 0)), some (.inl a1), o2], [(.inl 0)], M) rfl ?_
      cases h
      exact fj_rz rfl rfl (Or.inl rfl)
    · rw [if_neg hc1] at h
      refine fj_bf rfl (decide_eq_false hc1) ?_
      refine fj_blk 5 (50, 41, [some (.inr (0, 0)), some (.inl a1), o2], [(.inl 12), (.inl ((M.1 0 0 8) + a1))], M) rfl ?_
      refine fj_irm rfl (by decide) ?_
      refine fj_blk 4 (50, 48, [some (.inr (0, 0)), some (.inl a1), some (.inl (((M.1 0 0 8) + a1) - ((M.1 0 0 8) + a1) / 12 * 12))], [(.inl (((M.1 0 0 8) + a1) - ((M.1 0 0 8) + a1) / 12 * 12)), (.inr (4, 0))], M) rfl ?_
      by_cases hc3 : (((M.1 0 0 8) + a1) - ((M.1 0 0 8) + a1) / 12 * 12) < 0 ∨ 12 ≤ (((M.1 0 0 8) + a1) - ((M.1 0 0 8) + a1) / 12 * 12).toNatClampNeg
      · rw [if_pos hc3] at h
        cases h
      rw [if_neg hc3] at h
      refine fj_aal rfl rfl hc3 ?_
      refine fj_blk 2 (50, 53, [some (.inr (0, 0)), some (.inl a1), some (.inl (((M.1 0 0 8) + a1) - ((M.1 0 0 8) + a1) / 12 * 12))], [(.inl 1), (.inl (M.1 7 ((((M.1 0 0 8) + a1) - ((M.1 0 0 8) + a1) / 12 * 12).toNatClampNeg) 2))], M) rfl ?_
      by_cases hc4 : (M.1 7 ((((M.1 0 0 8) + a1) - ((M.1 0 0 8) + a1) / 12 * 12).toNatClampNeg) 2) = 1
      · rw [if_pos hc4] at h
        refine fj_bf rfl (fj_nf hc4) ?_
        refine fj_blk 8 (50, 70, [some (.inr (0, 0)), some (.inl a1), some (.inl (((M.1 0 0 8) + a1) - ((M.1 0 0 8) + a1) / 12 * 12))], [(.inl 1)], ((fj_u1 (fj_u1 M.1 0 0 8 (((M.1 0 0 8) + a1) - ((M.1 0 0 8) + a1) / 12 * 12)) 0 0 9 ((fj_u1 M.1 0 0 8 (((M.1 0 0 8) + a1) - ((M.1 0 0 8) + a1) / 12 * 12)) 0 0 6)), M.2)) rfl ?_
        cases h
        exact fj_rz rfl rfl (Or.inr rfl)
      · rw [if_neg hc4] at h
        refine fj_bt rfl (fj_nt hc4) ?_
        refine fj_blk 2 (50, 27, [some (.inr (0, 0)), some (.inl (a1 + 1)), some (.inl (((M.1 0 0 8) + a1) - ((M.1 0 0 8) + a1) / 12 * 12))], [], M) rfl ?_
        exact de_50_27 X n (a1 + 1) (some (.inl (((M.1 0 0 8) + a1) - ((M.1 0 0 8) + a1) / 12 * 12))) M r h
def dm_50_25   (M : fj_M) : Option (Int32 × fj_M) := dm_50_27 40 1 none M
set_option maxRecDepth 40000 in
theorem de_50_25 (X : fj_X)  (M : fj_M) (r : (Int32 × fj_M)) (h : dm_50_25  M = some r) : fj_ev X (50, 25, [some (.inr (0, 0)), none, none], [], M) (some r.1, r.2) := by
    unfold dm_50_25 at h
    refine fj_blk 2 (50, 27, [some (.inr (0, 0)), some (.inl 1), none], [], M) rfl ?_
    exact de_50_27 X 40 1 none M r h
/-- X5_passTurn -/
def dm_50  (M : fj_M) : Option (Int32 × fj_M) := (if (M.1 0 0 9) ≤ 0 then dm_50_25 M else (if (M.1 0 0 8) < 0 ∨ 12 ≤ (M.1 0 0 8).toNatClampNeg then none else (if (M.1 7 ((M.1 0 0 8).toNatClampNeg) 2) = 1 then some (1, M) else dm_50_25 M)))
set_option maxRecDepth 40000 in
theorem de_50 (X : fj_X)  (M : fj_M) (r : (Int32 × fj_M)) (h : dm_50  M = some r) : fj_ev X (50, 0, [some (.inr (0, 0)), none, none], [], M) (some r.1, r.2) := by
    unfold dm_50 at h
    refine fj_blk 2 (50, 4, [some (.inr (0, 0)), none, none], [(.inl (M.1 0 0 9))], M) rfl ?_
    by_cases hc1 : (M.1 0 0 9) ≤ 0
    · rw [if_pos hc1] at h
      refine fj_bt rfl (decide_eq_true hc1) ?_
      exact de_50_25 X M r h
    · rw [if_neg hc1] at h
      refine fj_bf rfl (decide_eq_false hc1) ?_
      refine fj_blk 4 (50, 15, [some (.inr (0, 0)), none, none], [(.inl (M.1 0 0 8)), (.inr (4, 0))], M) rfl ?_
      by_cases hc2 : (M.1 0 0 8) < 0 ∨ 12 ≤ (M.1 0 0 8).toNatClampNeg
      · rw [if_pos hc2] at h
        cases h
      rw [if_neg hc2] at h
      refine fj_aal rfl rfl hc2 ?_
      refine fj_blk 2 (50, 20, [some (.inr (0, 0)), none, none], [(.inl 1), (.inl (M.1 7 ((M.1 0 0 8).toNatClampNeg) 2))], M) rfl ?_
      by_cases hc3 : (M.1 7 ((M.1 0 0 8).toNatClampNeg) 2) = 1
      · rw [if_pos hc3] at h
        refine fj_bf rfl (fj_nf hc3) ?_
        refine fj_blk 1 (50, 24, [some (.inr (0, 0)), none, none], [(.inl 1)], M) rfl ?_
        cases h
        exact fj_rz rfl rfl (Or.inr rfl)
      · rw [if_neg hc3] at h
        refine fj_bt rfl (fj_nt hc3) ?_
        exact de_50_25 X M r h
def dm_42_28  (rec4 : Int32 → Int32 → fj_M → Option (Int32 × fj_M)) (a1 : Int32) (a2 : Int32) (s0 : Int32) (s1 : Int32) (M : fj_M) : Option (Int32 × fj_M) := rec4 (s1 + s0) (a2 + 1) M
set_option maxRecDepth 40000 in
theorem de_42_28 (X : fj_X) (rec4 : Int32 → Int32 → fj_M → Option (Int32 × fj_M)) (hrec4 : ∀ (a1 : Int32) (a2 : Int32) (M : fj_M) (r : (Int32 × fj_M)), rec4 a1 a2 M = some r → fj_ev X (42, 4, [some (.inr (0, 0)), some (.inl a1), some (.inl a2)], [], M) (some r.1, r.2)) (a1 : Int32) (a2 : Int32) (s0 : Int32) (s1 : Int32) (M : fj_M) (r : (Int32 × fj_M)) (h : dm_42_28 rec4 a1 a2 s0 s1 M = some r) : fj_ev X (42, 28, [some (.inr (0, 0)), some (.inl a1), some (.inl a2)], [(.inl s0), (.inl s1)], M) (some r.1, r.2) := by
    unfold dm_42_28 at h
    refine fj_blk 4 (42, 4, [some (.inr (0, 0)), some (.inl (s1 + s0)), some (.inl (a2 + 1))], [], M) rfl ?_
    exact hrec4 (s1 + s0) (a2 + 1) M r h
def dm_42_4  : Nat → Int32 → Int32 → fj_M → Option (Int32 × fj_M)
  | 0, _, _, _ => none
  | n + 1, a1, a2, M => (if 12 ≤ a2 then some (a1, M) else (if a2 < 0 ∨ 12 ≤ a2.toNatClampNeg then none else ((dm_6 a2.toNatClampNeg M).bind fun q3 => (if q3.1 = 0 then dm_42_28 (dm_42_4 n) a1 a2 0 a1 q3.2 else dm_42_28 (dm_42_4 n) a1 a2 1 a1 q3.2))))
set_option maxRecDepth 40000 in
theorem de_42_4 (X : fj_X) : ∀ (n : Nat) (a1 : Int32) (a2 : Int32) (M : fj_M) (r : (Int32 × fj_M)), dm_42_4 n a1 a2 M = some r → fj_ev X (42, 4, [some (.inr (0, 0)), some (.inl a1), some (.inl a2)], [], M) (some r.1, r.2)
  | 0, _, _, _, r, h => by cases h
  | n + 1, a1, a2, M, r, h => by
    unfold dm_42_4 at h
    refine fj_blk 2 (42, 7, [some (.inr (0, 0)), some (.inl a1), some (.inl a2)], [(.inl 12), (.inl a2)], M) rfl ?_
    by_cases hc1 : 12 ≤ a2
    · rw [if_pos hc1] at h
      refine fj_bt rfl (decide_eq_true hc1) ?_
      refine fj_blk 1 (42, 37, [some (.inr (0, 0)), some (.inl a1), some (.inl a2)], [(.inl a1)], M) rfl ?_
      cases h
      exact fj_ri rfl rfl
    · rw [if_neg hc1] at h
      refine fj_bf rfl (decide_eq_false hc1) ?_
      refine fj_blk 4 (42, 16, [some (.inr (0, 0)), some (.inl a1), some (.inl a2)], [(.inl a2), (.inr (4, 0)), (.inl a1)], M) rfl ?_
      by_cases hc2 : a2 < 0 ∨ 12 ≤ a2.toNatClampNeg
      · rw [if_pos hc2] at h
        cases h
      rw [if_neg hc2] at h
      refine fj_aal rfl rfl hc2 ?_
      cases hq3 : dm_6 a2.toNatClampNeg M with
      | none => rw [hq3] at h; cases h
      | some q3 =>
        rw [hq3, Option.bind_some] at h
        refine fj_cl rfl (de_6 X a2.toNatClampNeg M _ hq3) ?_
        by_cases hc4 : q3.1 = 0
        · rw [if_pos hc4] at h
          refine fj_bt rfl (decide_eq_true hc4) ?_
          refine fj_blk 1 (42, 28, [some (.inr (0, 0)), some (.inl a1), some (.inl a2)], [(.inl 0), (.inl a1)], q3.2) rfl ?_
          exact de_42_28 X (dm_42_4 n) (de_42_4 X n) a1 a2 0 a1 q3.2 r h
        · rw [if_neg hc4] at h
          refine fj_bf rfl (decide_eq_false hc4) ?_
          refine fj_blk 2 (42, 28, [some (.inr (0, 0)), some (.inl a1), some (.inl a2)], [(.inl 1), (.inl a1)], q3.2) rfl ?_
          exact de_42_28 X (dm_42_4 n) (de_42_4 X n) a1 a2 1 a1 q3.2 r h
/-- X5_countLive -/
def dm_42  (M : fj_M) : Option (Int32 × fj_M) := dm_42_4 40 0 0 M
set_option maxRecDepth 40000 in
theorem de_42 (X : fj_X)  (M : fj_M) (r : (Int32 × fj_M)) (h : dm_42  M = some r) : fj_ev X (42, 0, [some (.inr (0, 0)), none, none], [], M) (some r.1, r.2) := by
    unfold dm_42 at h
    refine fj_blk 4 (42, 4, [some (.inr (0, 0)), some (.inl 0), some (.inl 0)], [], M) rfl ?_
    exact de_42_4 X 40 0 0 M r h
def dm_43_29  (rec4 : Int32 → Int32 → Int32 → fj_M → Option (Int32 × fj_M)) (a1 : Int32) (a2 : Int32) (a3 : Int32) (s0 : Int32) (s1 : Int32) (M : fj_M) : Option (Int32 × fj_M) := rec4 a1 (s1 + s0) (a3 + 1) M
set_option maxRecDepth 40000 in
theorem de_43_29 (X : fj_X) (rec4 : Int32 → Int32 → Int32 → fj_M → Option (Int32 × fj_M)) (hrec4 : ∀ (a1 : Int32) (a2 : Int32) (a3 : Int32) (M : fj_M) (r : (Int32 × fj_M)), rec4 a1 a2 a3 M = some r → fj_ev X (43, 4, [some (.inr (0, 0)), some (.inl a1), some (.inl a2), some (.inl a3)], [], M) (some r.1, r.2)) (a1 : Int32) (a2 : Int32) (a3 : Int32) (s0 : Int32) (s1 : Int32) (M : fj_M) (r : (Int32 × fj_M)) (h : dm_43_29 rec4 a1 a2 a3 s0 s1 M = some r) : fj_ev X (43, 29, [some (.inr (0, 0)), some (.inl a1), some (.inl a2), some (.inl a3)], [(.inl s0), (.inl s1)], M) (some r.1, r.2) := by
    unfold dm_43_29 at h
    refine fj_blk 4 (43, 4, [some (.inr (0, 0)), some (.inl a1), some (.inl (s1 + s0)), some (.inl (a3 + 1))], [], M) rfl ?_
    exact hrec4 a1 (s1 + s0) (a3 + 1) M r h
def dm_43_4  : Nat → Int32 → Int32 → Int32 → fj_M → Option (Int32 × fj_M)
  | 0, _, _, _, _ => none
  | n + 1, a1, a2, a3, M => (if 12 ≤ a3 then some (a2, M) else (if a3 < 0 ∨ 12 ≤ a3.toNatClampNeg then none else (if (M.1 7 a3.toNatClampNeg 2) = a1 then dm_43_29 (dm_43_4 n) a1 a2 a3 1 a2 M else dm_43_29 (dm_43_4 n) a1 a2 a3 0 a2 M)))
set_option maxRecDepth 40000 in
theorem de_43_4 (X : fj_X) : ∀ (n : Nat) (a1 : Int32) (a2 : Int32) (a3 : Int32) (M : fj_M) (r : (Int32 × fj_M)), dm_43_4 n a1 a2 a3 M = some r → fj_ev X (43, 4, [some (.inr (0, 0)), some (.inl a1), some (.inl a2), some (.inl a3)], [], M) (some r.1, r.2)
  | 0, _, _, _, _, r, h => by cases h
  | n + 1, a1, a2, a3, M, r, h => by
    unfold dm_43_4 at h
    refine fj_blk 2 (43, 7, [some (.inr (0, 0)), some (.inl a1), some (.inl a2), some (.inl a3)], [(.inl 12), (.inl a3)], M) rfl ?_
    by_cases hc1 : 12 ≤ a3
    · rw [if_pos hc1] at h
      refine fj_bt rfl (decide_eq_true hc1) ?_
      refine fj_blk 1 (43, 38, [some (.inr (0, 0)), some (.inl a1), some (.inl a2), some (.inl a3)], [(.inl a2)], M) rfl ?_
      cases h
      exact fj_ri rfl rfl
    · rw [if_neg hc1] at h
      refine fj_bf rfl (decide_eq_false hc1) ?_
      refine fj_blk 4 (43, 16, [some (.inr (0, 0)), some (.inl a1), some (.inl a2), some (.inl a3)], [(.inl a3), (.inr (4, 0)), (.inl a2)], M) rfl ?_
      by_cases hc2 : a3 < 0 ∨ 12 ≤ a3.toNatClampNeg
      · rw [if_pos hc2] at h
        cases h
      rw [if_neg hc2] at h
      refine fj_aal rfl rfl hc2 ?_
      refine fj_blk 2 (43, 21, [some (.inr (0, 0)), some (.inl a1), some (.inl a2), some (.inl a3)], [(.inl a1), (.inl (M.1 7 a3.toNatClampNeg 2)), (.inl a2)], M) rfl ?_
      by_cases hc3 : (M.1 7 a3.toNatClampNeg 2) = a1
      · rw [if_pos hc3] at h
        refine fj_bf rfl (fj_nf hc3) ?_
        refine fj_blk 2 (43, 29, [some (.inr (0, 0)), some (.inl a1), some (.inl a2), some (.inl a3)], [(.inl 1), (.inl a2)], M) rfl ?_
        exact de_43_29 X (dm_43_4 n) (de_43_4 X n) a1 a2 a3 1 a2 M r h
      · rw [if_neg hc3] at h
        refine fj_bt rfl (fj_nt hc3) ?_
        refine fj_blk 1 (43, 29, [some (.inr (0, 0)), some (.inl a1), some (.inl a2), some (.inl a3)], [(.inl 0), (.inl a2)], M) rfl ?_
        exact de_43_29 X (dm_43_4 n) (de_43_4 X n) a1 a2 a3 0 a2 M r h
/-- X5_countIn -/
def dm_43 (a1 : Int32) (M : fj_M) : Option (Int32 × fj_M) := dm_43_4 40 a1 0 0 M
set_option maxRecDepth 40000 in
theorem de_43 (X : fj_X) (a1 : Int32) (M : fj_M) (r : (Int32 × fj_M)) (h : dm_43 a1 M = some r) : fj_ev X (43, 0, [some (.inr (0, 0)), some (.inl a1), none, none], [], M) (some r.1, r.2) := by
    unfold dm_43 at h
    refine fj_blk 4 (43, 4, [some (.inr (0, 0)), some (.inl a1), some (.inl 0), some (.inl 0)], [], M) rfl ?_
    exact de_43_4 X 40 a1 0 0 M r h
/-- X5_standstill -/
def dm_51  (M : fj_M) : Option (Int32 × fj_M) := ((dm_42 M).bind fun q1 => (if q1.1 = 0 then some (2, q1.2) else ((dm_43 5 q1.2).bind fun q3 => (if q3.1 ≤ 0 then some (3, q3.2) else some (1, q3.2)))))
set_option maxRecDepth 40000 in
theorem de_51 (X : fj_X)  (M : fj_M) (r : (Int32 × fj_M)) (h : dm_51  M = some r) : fj_ev X (51, 0, [some (.inr (0, 0))], [], M) (some r.1, r.2) := by
    unfold dm_51 at h
    refine fj_blk 1 (51, 1, [some (.inr (0, 0))], [(.inr (0, 0))], M) rfl ?_
    cases hq1 : dm_42 M with
    | none => rw [hq1] at h; cases h
    | some q1 =>
      rw [hq1, Option.bind_some] at h
      refine fj_cl rfl (de_42 X M _ hq1) ?_
      by_cases hc2 : q1.1 = 0
      · rw [if_pos hc2] at h
        refine fj_bf rfl (fj_nf hc2) ?_
        refine fj_blk 1 (51, 8, [some (.inr (0, 0))], [(.inl 2)], q1.2) rfl ?_
        cases h
        exact fj_ri rfl rfl
      · rw [if_neg hc2] at h
        refine fj_bt rfl (fj_nt hc2) ?_
        refine fj_blk 2 (51, 11, [some (.inr (0, 0))], [(.inl 5), (.inr (0, 0))], q1.2) rfl ?_
        cases hq3 : dm_43 5 q1.2 with
        | none => rw [hq3] at h; cases h
        | some q3 =>
          rw [hq3, Option.bind_some] at h
          refine fj_cl rfl (de_43 X 5 q1.2 _ hq3) ?_
          by_cases hc4 : q3.1 ≤ 0
          · rw [if_pos hc4] at h
            refine fj_bt rfl (decide_eq_true hc4) ?_
            refine fj_blk 1 (51, 22, [some (.inr (0, 0))], [(.inl 3)], q3.2) rfl ?_
            cases h
            exact fj_ri rfl rfl
          · rw [if_neg hc4] at h
            refine fj_bf rfl (decide_eq_false hc4) ?_
            refine fj_blk 2 (51, 22, [some (.inr (0, 0))], [(.inl 1)], q3.2) rfl ?_
            cases h
            exact fj_ri rfl rfl
def dm_63_35  (a1 : Nat) (a2 : Int32) (M : fj_M) : Option (Int32 × fj_M) := ((dm_9 a1 8 (-a2) M).bind fun q1 => some (1, q1))
set_option maxRecDepth 40000 in
theorem de_63_35 (X : fj_X) (a1 : Nat) (a2 : Int32) (M : fj_M) (r : (Int32 × fj_M)) (h : dm_63_35 a1 a2 M = some r) : fj_ev X (63, 35, [some (.inr (0, 0)), some (.inr (7, a1)), some (.inl a2)], [], M) (some r.1, r.2) := by
    unfold dm_63_35 at h
    refine fj_blk 4 (63, 40, [some (.inr (0, 0)), some (.inr (7, a1)), some (.inl a2)], [(.inl (-a2)), (.inl 8), (.inr (7, a1))], M) rfl ?_
    cases hq1 : dm_9 a1 8 (-a2) M with
    | none => rw [hq1] at h; cases h
    | some q1 =>
      rw [hq1, Option.bind_some] at h
      refine fj_cl rfl (de_9 X a1 8 (-a2) M _ hq1) ?_
      refine fj_blk 1 (63, 44, [some (.inr (0, 0)), some (.inr (7, a1)), some (.inl a2)], [(.inl 1)], q1) rfl ?_
      cases h
      exact fj_rz rfl rfl (Or.inr rfl)
/-- X5_strike -/
def dm_63 (a1 : Nat) (a2 : Int32) (M : fj_M) : Option (Int32 × fj_M) := (if ((fj_u1 M.1 0 0 13 ((M.1 0 0 13) + 1)) 7 a1 6) = (-1) then dm_63_35 a1 a2 ((fj_u1 M.1 0 0 13 ((M.1 0 0 13) + 1)), M.2) else (if a2 = 9 then dm_63_35 a1 a2 ((fj_u1 M.1 0 0 13 ((M.1 0 0 13) + 1)), M.2) else ((dm_8 a1 ((fj_u1 M.1 0 0 13 ((M.1 0 0 13) + 1)) 7 a1 6) a2 ((fj_u1 M.1 0 0 13 ((M.1 0 0 13) + 1)), M.2)).bind fun q3 => some (0, q3))))
set_option maxRecDepth 40000 in
theorem de_63 (X : fj_X) (a1 : Nat) (a2 : Int32) (M : fj_M) (r : (Int32 × fj_M)) (h : dm_63 a1 a2 M = some r) : fj_ev X (63, 0, [some (.inr (0, 0)), some (.inr (7, a1)), some (.inl a2)], [], M) (some r.1, r.2) := by
    unfold dm_63 at h
    refine fj_blk 9 (63, 15, [some (.inr (0, 0)), some (.inr (7, a1)), some (.inl a2)], [(.inl (-1)), (.inl ((fj_u1 M.1 0 0 13 ((M.1 0 0 13) + 1)) 7 a1 6))], ((fj_u1 M.1 0 0 13 ((M.1 0 0 13) + 1)), M.2)) rfl ?_
    by_cases hc1 : ((fj_u1 M.1 0 0 13 ((M.1 0 0 13) + 1)) 7 a1 6) = (-1)
    · rw [if_pos hc1] at h
      refine fj_bt rfl (decide_eq_true hc1) ?_
      exact de_63_35 X a1 a2 ((fj_u1 M.1 0 0 13 ((M.1 0 0 13) + 1)), M.2) r h
    · rw [if_neg hc1] at h
      refine fj_bf rfl (decide_eq_false hc1) ?_
      refine fj_blk 2 (63, 21, [some (.inr (0, 0)), some (.inr (7, a1)), some (.inl a2)], [(.inl 9), (.inl a2)], ((fj_u1 M.1 0 0 13 ((M.1 0 0 13) + 1)), M.2)) rfl ?_
      by_cases hc2 : a2 = 9
      · rw [if_pos hc2] at h
        refine fj_bt rfl (decide_eq_true hc2) ?_
        exact de_63_35 X a1 a2 ((fj_u1 M.1 0 0 13 ((M.1 0 0 13) + 1)), M.2) r h
      · rw [if_neg hc2] at h
        refine fj_bf rfl (decide_eq_false hc2) ?_
        refine fj_blk 4 (63, 30, [some (.inr (0, 0)), some (.inr (7, a1)), some (.inl a2)], [(.inl a2), (.inl ((fj_u1 M.1 0 0 13 ((M.1 0 0 13) + 1)) 7 a1 6)), (.inr (7, a1))], ((fj_u1 M.1 0 0 13 ((M.1 0 0 13) + 1)), M.2)) rfl ?_
        cases hq3 : dm_8 a1 ((fj_u1 M.1 0 0 13 ((M.1 0 0 13) + 1)) 7 a1 6) a2 ((fj_u1 M.1 0 0 13 ((M.1 0 0 13) + 1)), M.2) with
        | none => rw [hq3] at h; cases h
        | some q3 =>
          rw [hq3, Option.bind_some] at h
          refine fj_cl rfl (de_8 X a1 ((fj_u1 M.1 0 0 13 ((M.1 0 0 13) + 1)) 7 a1 6) a2 ((fj_u1 M.1 0 0 13 ((M.1 0 0 13) + 1)), M.2) _ hq3) ?_
          refine fj_blk 1 (63, 34, [some (.inr (0, 0)), some (.inr (7, a1)), some (.inl a2)], [(.inl 0)], q3) rfl ?_
          cases h
          exact fj_rz rfl rfl (Or.inl rfl)
def dm_62_141  (rec37 : Int32 → Int32 → Int32 → Int32 → Option fj_V → Option fj_V → Option fj_V → fj_M → Option fj_M) (rec64 : Int32 → Int32 → Int32 → Int32 → Int32 → Int32 → Option fj_V → fj_M → Option fj_M) (a1 : Int32) (a2 : Int32) (a3 : Int32) (a4 : Int32) (a5 : Int32) (a6 : Int32) (a7 : Int32) (M : fj_M) : Option fj_M := rec64 a1 a2 a3 a4 a5 (a6 + 1) (some (.inl a7)) M
set_option maxRecDepth 40000 in
theorem de_62_141 (X : fj_X) (rec37 : Int32 → Int32 → Int32 → Int32 → Option fj_V → Option fj_V → Option fj_V → fj_M → Option fj_M) (rec64 : Int32 → Int32 → Int32 → Int32 → Int32 → Int32 → Option fj_V → fj_M → Option fj_M) (hrec37 : ∀ (a1 : Int32) (a2 : Int32) (a3 : Int32) (a4 : Int32) (o5 : Option fj_V) (o6 : Option fj_V) (o7 : Option fj_V) (M : fj_M) (r : fj_M), rec37 a1 a2 a3 a4 o5 o6 o7 M = some r → fj_ev X (62, 37, [some (.inr (0, 0)), some (.inl a1), some (.inl a2), some (.inl a3), some (.inl a4), o5, o6, o7], [], M) (none, r)) (hrec64 : ∀ (a1 : Int32) (a2 : Int32) (a3 : Int32) (a4 : Int32) (a5 : Int32) (a6 : Int32) (o7 : Option fj_V) (M : fj_M) (r : fj_M), rec64 a1 a2 a3 a4 a5 a6 o7 M = some r → fj_ev X (62, 64, [some (.inr (0, 0)), some (.inl a1), some (.inl a2), some (.inl a3), some (.inl a4), some (.inl a5), some (.inl a6), o7], [], M) (none, r)) (a1 : Int32) (a2 : Int32) (a3 : Int32) (a4 : Int32) (a5 : Int32) (a6 : Int32) (a7 : Int32) (M : fj_M) (r : fj_M) (h : dm_62_141 rec37 rec64 a1 a2 a3 a4 a5 a6 a7 M = some r) : fj_ev X (62, 141, [some (.inr (0, 0)), some (.inl a1), some (.inl a2), some (.inl a3), some (.inl a4), some (.inl a5), some (.inl a6), some (.inl a7)], [], M) (none, r) := by
    unfold dm_62_141 at h
    refine fj_blk 2 (62, 64, [some (.inr (0, 0)), some (.inl a1), some (.inl a2), some (.inl a3), some (.inl a4), some (.inl a5), some (.inl (a6 + 1)), some (.inl a7)], [], M) rfl ?_
    exact hrec64 a1 a2 a3 a4 a5 (a6 + 1) (some (.inl a7)) M r h
def dm_62_101  (rec37 : Int32 → Int32 → Int32 → Int32 → Option fj_V → Option fj_V → Option fj_V → fj_M → Option fj_M) (rec64 : Int32 → Int32 → Int32 → Int32 → Int32 → Int32 → Option fj_V → fj_M → Option fj_M) (a1 : Int32) (a2 : Int32) (a3 : Int32) (a4 : Int32) (a5 : Int32) (a6 : Int32) (o7 : Option fj_V) (s0 : Int32) (M : fj_M) : Option fj_M := (if s0 = 0 then dm_62_141 rec37 rec64 a1 a2 a3 a4 a5 a6 s0 M else (if a6 < 0 ∨ 12 ≤ a6.toNatClampNeg then none else ((dm_63 a6.toNatClampNeg 8 M).bind fun q3 => (if q3.1 = 0 then dm_62_141 rec37 rec64 a1 a2 a3 a4 a5 a6 s0 q3.2 else (if 12 ≤ a3 then dm_62_141 rec37 rec64 a1 a2 a3 a4 a5 a6 s0 q3.2 else (if a3 < 0 ∨ 12 ≤ a3.toNatClampNeg then none else dm_62_141 rec37 rec64 a1 a2 (a3 + 1) a4 a5 a6 s0 ((fj_u1 q3.2.1 6 0 a3.toNatClampNeg a6), q3.2.2)))))))
set_option maxRecDepth 40000 in
theorem de_62_101 (X : fj_X) (rec37 : Int32 → Int32 → Int32 → Int32 → Option fj_V → Option fj_V → Option fj_V → fj_M → Option fj_M) (rec64 : Int32 → Int32 → Int32 → Int32 → Int32 → Int32 → Option fj_V → fj_M → Option fj_M) (hrec37 : ∀ (a1 : Int32) (a2 : Int32) (a3 : Int32) (a4 : Int32) (o5 : Option fj_V) (o6 : Option fj_V) (o7 : Option fj_V) (M : fj_M) (r : fj_M), rec37 a1 a2 a3 a4 o5 o6 o7 M = some r → fj_ev X (62, 37, [some (.inr (0, 0)), some (.inl a1), some (.inl a2), some (.inl a3), some (.inl a4), o5, o6, o7], [], M) (none, r)) (hrec64 : ∀ (a1 : Int32) (a2 : Int32) (a3 : Int32) (a4 : Int32) (a5 : Int32) (a6 : Int32) (o7 : Option fj_V) (M : fj_M) (r : fj_M), rec64 a1 a2 a3 a4 a5 a6 o7 M = some r → fj_ev X (62, 64, [some (.inr (0, 0)), some (.inl a1), some (.inl a2), some (.inl a3), some (.inl a4), some (.inl a5), some (.inl a6), o7], [], M) (none, r)) (a1 : Int32) (a2 : Int32) (a3 : Int32) (a4 : Int32) (a5 : Int32) (a6 : Int32) (o7 : Option fj_V) (s0 : Int32) (M : fj_M) (r : fj_M) (h : dm_62_101 rec37 rec64 a1 a2 a3 a4 a5 a6 o7 s0 M = some r) : fj_ev X (62, 101, [some (.inr (0, 0)), some (.inl a1), some (.inl a2), some (.inl a3), some (.inl a4), some (.inl a5), some (.inl a6), o7], [(.inl s0)], M) (none, r) := by
    unfold dm_62_101 at h
    refine fj_blk 2 (62, 105, [some (.inr (0, 0)), some (.inl a1), some (.inl a2), some (.inl a3), some (.inl a4), some (.inl a5), some (.inl a6), some (.inl s0)], [(.inl s0)], M) rfl ?_
    by_cases hc1 : s0 = 0
    · rw [if_pos hc1] at h
      refine fj_bt rfl (decide_eq_true hc1) ?_
      exact de_62_141 X rec37 rec64 hrec37 hrec64 a1 a2 a3 a4 a5 a6 s0 M r h
    · rw [if_neg hc1] at h
      refine fj_bf rfl (decide_eq_false hc1) ?_
      refine fj_blk 4 (62, 115, [some (.inr (0, 0)), some (.inl a1), some (.inl a2), some (.inl a3), some (.inl a4), some (.inl a5), some (.inl a6), some (.inl s0)], [(.inl a6), (.inr (4, 0)), (.inr (0, 0))], M) rfl ?_
      by_cases hc2 : a6 < 0 ∨ 12 ≤ a6.toNatClampNeg
      · rw [if_pos hc2] at h
        cases h
      rw [if_neg hc2] at h
      refine fj_aal rfl rfl hc2 ?_
      refine fj_blk 1 (62, 118, [some (.inr (0, 0)), some (.inl a1), some (.inl a2), some (.inl a3), some (.inl a4), some (.inl a5), some (.inl a6), some (.inl s0)], [(.inl 8), (.inr (7, a6.toNatClampNeg)), (.inr (0, 0))], M) rfl ?_
      cases hq3 : dm_63 a6.toNatClampNeg 8 M with
      | none => rw [hq3] at h; cases h
      | some q3 =>
        rw [hq3, Option.bind_some] at h
        refine fj_cl rfl (de_63 X a6.toNatClampNeg 8 M _ hq3) ?_
        by_cases hc4 : q3.1 = 0
        · rw [if_pos hc4] at h
          refine fj_bt rfl (decide_eq_true hc4) ?_
          exact de_62_141 X rec37 rec64 hrec37 hrec64 a1 a2 a3 a4 a5 a6 s0 q3.2 r h
        · rw [if_neg hc4] at h
          refine fj_bf rfl (decide_eq_false hc4) ?_
          refine fj_blk 2 (62, 127, [some (.inr (0, 0)), some (.inl a1), some (.inl a2), some (.inl a3), some (.inl a4), some (.inl a5), some (.inl a6), some (.inl s0)], [(.inl 12), (.inl a3)], q3.2) rfl ?_
          by_cases hc5 : 12 ≤ a3
          · rw [if_pos hc5] at h
            refine fj_bt rfl (decide_eq_true hc5) ?_
            exact de_62_141 X rec37 rec64 hrec37 hrec64 a1 a2 a3 a4 a5 a6 s0 q3.2 r h
          · rw [if_neg hc5] at h
            refine fj_bf rfl (decide_eq_false hc5) ?_
            refine fj_blk 5 (62, 140, [some (.inr (0, 0)), some (.inl a1), some (.inl a2), some (.inl (a3 + 1)), some (.inl a4), some (.inl a5), some (.inl a6), some (.inl s0)], [(.inl a6), (.inl a3), (.inr (6, 0))], q3.2) rfl ?_
            by_cases hc6 : a3 < 0 ∨ 12 ≤ a3.toNatClampNeg
            · rw [if_pos hc6] at h
              cases h
            rw [if_neg hc6] at h
            refine fj_ast rfl rfl hc6 ?_
            exact de_62_141 X rec37 rec64 hrec37 hrec64 a1 a2 (a3 + 1) a4 a5 a6 s0 ((fj_u1 q3.2.1 6 0 a3.toNatClampNeg a6), q3.2.2) r h
def dm_62_100  (rec37 : Int32 → Int32 → Int32 → Int32 → Option fj_V → Option fj_V → Option fj_V → fj_M → Option fj_M) (rec64 : Int32 → Int32 → Int32 → Int32 → Int32 → Int32 → Option fj_V → fj_M → Option fj_M) (a1 : Int32) (a2 : Int32) (a3 : Int32) (a4 : Int32) (a5 : Int32) (a6 : Int32) (o7 : Option fj_V) (M : fj_M) : Option fj_M := dm_62_101 rec37 rec64 a1 a2 a3 a4 a5 a6 o7 0 M
set_option maxRecDepth 40000 in
theorem de_62_100 (X : fj_X) (rec37 : Int32 → Int32 → Int32 → Int32 → Option fj_V → Option fj_V → Option fj_V → fj_M → Option fj_M) (rec64 : Int32 → Int32 → Int32 → Int32 → Int32 → Int32 → Option fj_V → fj_M → Option fj_M) (hrec37 : ∀ (a1 : Int32) (a2 : Int32) (a3 : Int32) (a4 : Int32) (o5 : Option fj_V) (o6 : Option fj_V) (o7 : Option fj_V) (M : fj_M) (r : fj_M), rec37 a1 a2 a3 a4 o5 o6 o7 M = some r → fj_ev X (62, 37, [some (.inr (0, 0)), some (.inl a1), some (.inl a2), some (.inl a3), some (.inl a4), o5, o6, o7], [], M) (none, r)) (hrec64 : ∀ (a1 : Int32) (a2 : Int32) (a3 : Int32) (a4 : Int32) (a5 : Int32) (a6 : Int32) (o7 : Option fj_V) (M : fj_M) (r : fj_M), rec64 a1 a2 a3 a4 a5 a6 o7 M = some r → fj_ev X (62, 64, [some (.inr (0, 0)), some (.inl a1), some (.inl a2), some (.inl a3), some (.inl a4), some (.inl a5), some (.inl a6), o7], [], M) (none, r)) (a1 : Int32) (a2 : Int32) (a3 : Int32) (a4 : Int32) (a5 : Int32) (a6 : Int32) (o7 : Option fj_V) (M : fj_M) (r : fj_M) (h : dm_62_100 rec37 rec64 a1 a2 a3 a4 a5 a6 o7 M = some r) : fj_ev X (62, 100, [some (.inr (0, 0)), some (.inl a1), some (.inl a2), some (.inl a3), some (.inl a4), some (.inl a5), some (.inl a6), o7], [], M) (none, r) := by
    unfold dm_62_100 at h
    refine fj_blk 1 (62, 101, [some (.inr (0, 0)), some (.inl a1), some (.inl a2), some (.inl a3), some (.inl a4), some (.inl a5), some (.inl a6), o7], [(.inl 0)], M) rfl ?_
    exact de_62_101 X rec37 rec64 hrec37 hrec64 a1 a2 a3 a4 a5 a6 o7 0 M r h
def dm_62_64  (rec37 : Int32 → Int32 → Int32 → Int32 → Option fj_V → Option fj_V → Option fj_V → fj_M → Option fj_M) : Nat → Int32 → Int32 → Int32 → Int32 → Int32 → Int32 → Option fj_V → fj_M → Option fj_M
  | 0, _, _, _, _, _, _, _, _ => none
  | n + 1, a1, a2, a3, a4, a5, a6, o7, M => (if 12 ≤ a6 then rec37 a1 a2 a3 (a4 + 1) (some (.inl a5)) (some (.inl a6)) o7 M else ((dm_39 a6 M).bind fun q2 => (if q2.1 = 0 then dm_62_100 rec37 (dm_62_64 rec37 n) a1 a2 a3 a4 a5 a6 o7 q2.2 else (if a6 < 0 ∨ 12 ≤ a6.toNatClampNeg then none else (if ((q2.2.1 7 a6.toNatClampNeg 7) &&& a5) = 0 then dm_62_100 rec37 (dm_62_64 rec37 n) a1 a2 a3 a4 a5 a6 o7 q2.2 else dm_62_101 rec37 (dm_62_64 rec37 n) a1 a2 a3 a4 a5 a6 o7 1 q2.2)))))
set_option maxRecDepth 40000 in
theorem de_62_64 (X : fj_X) (rec37 : Int32 → Int32 → Int32 → Int32 → Option fj_V → Option fj_V → Option fj_V → fj_M → Option fj_M) (hrec37 : ∀ (a1 : Int32) (a2 : Int32) (a3 : Int32) (a4 : Int32) (o5 : Option fj_V) (o6 : Option fj_V) (o7 : Option fj_V) (M : fj_M) (r : fj_M), rec37 a1 a2 a3 a4 o5 o6 o7 M = some r → fj_ev X (62, 37, [some (.inr (0, 0)), some (.inl a1), some (.inl a2), some (.inl a3), some (.inl a4), o5, o6, o7], [], M) (none, r)) : ∀ (n : Nat) (a1 : Int32) (a2 : Int32) (a3 : Int32) (a4 : Int32) (a5 : Int32) (a6 : Int32) (o7 : Option fj_V) (M : fj_M) (r : fj_M), dm_62_64 rec37 n a1 a2 a3 a4 a5 a6 o7 M = some r → fj_ev X (62, 64, [some (.inr (0, 0)), some (.inl a1), some (.inl a2), some (.inl a3), some (.inl a4), some (.inl a5), some (.inl a6), o7], [], M) (none, r)
  | 0, _, _, _, _, _, _, _, _, r, h => by cases h
  | n + 1, a1, a2, a3, a4, a5, a6, o7, M, r, h => by
    unfold dm_62_64 at h
    refine fj_blk 2 (62, 68, [some (.inr (0, 0)), some (.inl a1), some (.inl a2), some (.inl a3), some (.inl a4), some (.inl a5), some (.inl a6), o7], [(.inl 12), (.inl a6)], M) rfl ?_
    by_cases hc1 : 12 ≤ a6
    · rw [if_pos hc1] at h
      refine fj_bt rfl (decide_eq_true hc1) ?_
      refine fj_blk 2 (62, 37, [some (.inr (0, 0)), some (.inl a1), some (.inl a2), some (.inl a3), some (.inl (a4 + 1)), some (.inl a5), some (.inl a6), o7], [], M) rfl ?_
      exact hrec37 a1 a2 a3 (a4 + 1) (some (.inl a5)) (some (.inl a6)) o7 M r h
    · rw [if_neg hc1] at h
      refine fj_bf rfl (decide_eq_false hc1) ?_
      refine fj_blk 2 (62, 74, [some (.inr (0, 0)), some (.inl a1), some (.inl a2), some (.inl a3), some (.inl a4), some (.inl a5), some (.inl a6), o7], [(.inl a6), (.inr (0, 0))], M) rfl ?_
      cases hq2 : dm_39 a6 M with
      | none => rw [hq2] at h; cases h
      | some q2 =>
        rw [hq2, Option.bind_some] at h
        refine fj_cl rfl (de_39 X a6 M _ hq2) ?_
        by_cases hc3 : q2.1 = 0
        · rw [if_pos hc3] at h
          refine fj_bt rfl (decide_eq_true hc3) ?_
          exact de_62_100 X rec37 (dm_62_64 rec37 n) hrec37 (de_62_64 X rec37 hrec37 n) a1 a2 a3 a4 a5 a6 o7 q2.2 r h
        · rw [if_neg hc3] at h
          refine fj_bf rfl (decide_eq_false hc3) ?_
          refine fj_blk 3 (62, 86, [some (.inr (0, 0)), some (.inl a1), some (.inl a2), some (.inl a3), some (.inl a4), some (.inl a5), some (.inl a6), o7], [(.inl a6), (.inr (4, 0))], q2.2) rfl ?_
          by_cases hc4 : a6 < 0 ∨ 12 ≤ a6.toNatClampNeg
          · rw [if_pos hc4] at h
            cases h
          rw [if_neg hc4] at h
          refine fj_aal rfl rfl hc4 ?_
          refine fj_blk 3 (62, 93, [some (.inr (0, 0)), some (.inl a1), some (.inl a2), some (.inl a3), some (.inl a4), some (.inl a5), some (.inl a6), o7], [(.inl ((q2.2.1 7 a6.toNatClampNeg 7) &&& a5))], q2.2) rfl ?_
          by_cases hc5 : ((q2.2.1 7 a6.toNatClampNeg 7) &&& a5) = 0
          · rw [if_pos hc5] at h
            refine fj_bt rfl (decide_eq_true hc5) ?_
            exact de_62_100 X rec37 (dm_62_64 rec37 n) hrec37 (de_62_64 X rec37 hrec37 n) a1 a2 a3 a4 a5 a6 o7 q2.2 r h
          · rw [if_neg hc5] at h
            refine fj_bf rfl (decide_eq_false hc5) ?_
            refine fj_blk 2 (62, 101, [some (.inr (0, 0)), some (.inl a1), some (.inl a2), some (.inl a3), some (.inl a4), some (.inl a5), some (.inl a6), o7], [(.inl 1)], q2.2) rfl ?_
            exact de_62_101 X rec37 (dm_62_64 rec37 n) hrec37 (de_62_64 X rec37 hrec37 n) a1 a2 a3 a4 a5 a6 o7 1 q2.2 r h
def dm_62_37  : Nat → Int32 → Int32 → Int32 → Int32 → Option fj_V → Option fj_V → Option fj_V → fj_M → Option fj_M
  | 0, _, _, _, _, _, _, _, _ => none
  | n + 1, a1, a2, a3, a4, o5, o6, o7, M => (if a3 ≤ a4 then some M else (if 12 ≤ a4 then some M else (if a4 < 0 ∨ 12 ≤ a4.toNatClampNeg then none else dm_62_64 (dm_62_37 n) 40 a1 a2 a3 a4 (1 <<< ((M.1 6 0 a4.toNatClampNeg) &&& 31)) 0 o7 M)))
set_option maxRecDepth 40000 in
theorem de_62_37 (X : fj_X) : ∀ (n : Nat) (a1 : Int32) (a2 : Int32) (a3 : Int32) (a4 : Int32) (o5 : Option fj_V) (o6 : Option fj_V) (o7 : Option fj_V) (M : fj_M) (r : fj_M), dm_62_37 n a1 a2 a3 a4 o5 o6 o7 M = some r → fj_ev X (62, 37, [some (.inr (0, 0)), some (.inl a1), some (.inl a2), some (.inl a3), some (.inl a4), o5, o6, o7], [], M) (none, r)
  | 0, _, _, _, _, _, _, _, _, r, h => by cases h
  | n + 1, a1, a2, a3, a4, o5, o6, o7, M, r, h => by
    unfold dm_62_37 at h
    refine fj_blk 2 (62, 40, [some (.inr (0, 0)), some (.inl a1), some (.inl a2), some (.inl a3), some (.inl a4), o5, o6, o7], [(.inl a3), (.inl a4)], M) rfl ?_
    by_cases hc1 : a3 ≤ a4
    · rw [if_pos hc1] at h
      refine fj_bt rfl (decide_eq_true hc1) ?_
      cases h
      exact fj_rv rfl rfl
    · rw [if_neg hc1] at h
      refine fj_bf rfl (decide_eq_false hc1) ?_
      refine fj_blk 2 (62, 47, [some (.inr (0, 0)), some (.inl a1), some (.inl a2), some (.inl a3), some (.inl a4), o5, o6, o7], [(.inl 12), (.inl a4)], M) rfl ?_
      by_cases hc2 : 12 ≤ a4
      · rw [if_pos hc2] at h
        refine fj_bt rfl (decide_eq_true hc2) ?_
        cases h
        exact fj_rv rfl rfl
      · rw [if_neg hc2] at h
        refine fj_bf rfl (decide_eq_false hc2) ?_
        refine fj_blk 4 (62, 57, [some (.inr (0, 0)), some (.inl a1), some (.inl a2), some (.inl a3), some (.inl a4), o5, o6, o7], [(.inl a4), (.inr (6, 0)), (.inl 1)], M) rfl ?_
        by_cases hc3 : a4 < 0 ∨ 12 ≤ a4.toNatClampNeg
        · rw [if_pos hc3] at h
          cases h
        rw [if_neg hc3] at h
        refine fj_ald rfl rfl hc3 ?_
        refine fj_blk 4 (62, 64, [some (.inr (0, 0)), some (.inl a1), some (.inl a2), some (.inl a3), some (.inl a4), some (.inl (1 <<< ((M.1 6 0 a4.toNatClampNeg) &&& 31))), some (.inl 0), o7], [], M) rfl ?_
        exact de_62_64 X (dm_62_37 n) (de_62_37 X n) 40 a1 a2 a3 a4 (1 <<< ((M.1 6 0 a4.toNatClampNeg) &&& 31)) 0 o7 M r h
def dm_62_34  (a1 : Int32) (a2 : Int32) (a3 : Int32) (M : fj_M) : Option fj_M := dm_62_37 40 a1 a2 a3 0 none none none M
set_option maxRecDepth 40000 in
theorem de_62_34 (X : fj_X) (a1 : Int32) (a2 : Int32) (a3 : Int32) (M : fj_M) (r : fj_M) (h : dm_62_34 a1 a2 a3 M = some r) : fj_ev X (62, 34, [some (.inr (0, 0)), some (.inl a1), some (.inl a2), some (.inl a3), none, none, none, none], [], M) (none, r) := by
    unfold dm_62_34 at h
    refine fj_blk 2 (62, 37, [some (.inr (0, 0)), some (.inl a1), some (.inl a2), some (.inl a3), some (.inl 0), none, none, none], [], M) rfl ?_
    exact de_62_37 X 40 a1 a2 a3 0 none none none M r h
/-- X5_bringFault -/
def dm_62 (a1 : Int32) (a2 : Int32) (M : fj_M) : Option fj_M := ((dm_39 a1 M).bind fun q1 => (if q1.1 = 0 then dm_62_34 a1 a2 0 q1.2 else (if a1 < 0 ∨ 12 ≤ a1.toNatClampNeg then none else ((dm_63 a1.toNatClampNeg a2 q1.2).bind fun q4 => (if q4.1 = 0 then dm_62_34 a1 a2 0 q4.2 else dm_62_34 a1 a2 (0 + 1) ((fj_u1 q4.2.1 6 0 0 a1), q4.2.2))))))
set_option maxRecDepth 40000 in
theorem de_62 (X : fj_X) (a1 : Int32) (a2 : Int32) (M : fj_M) (r : fj_M) (h : dm_62 a1 a2 M = some r) : fj_ev X (62, 0, [some (.inr (0, 0)), some (.inl a1), some (.inl a2), none, none, none, none, none], [], M) (none, r) := by
    unfold dm_62 at h
    refine fj_blk 4 (62, 4, [some (.inr (0, 0)), some (.inl a1), some (.inl a2), some (.inl 0), none, none, none, none], [(.inl a1), (.inr (0, 0))], M) rfl ?_
    cases hq1 : dm_39 a1 M with
    | none => rw [hq1] at h; cases h
    | some q1 =>
      rw [hq1, Option.bind_some] at h
      refine fj_cl rfl (de_39 X a1 M _ hq1) ?_
      by_cases hc2 : q1.1 = 0
      · rw [if_pos hc2] at h
        refine fj_bt rfl (decide_eq_true hc2) ?_
        exact de_62_34 X a1 a2 0 q1.2 r h
      · rw [if_neg hc2] at h
        refine fj_bf rfl (decide_eq_false hc2) ?_
        refine fj_blk 4 (62, 16, [some (.inr (0, 0)), some (.inl a1), some (.inl a2), some (.inl 0), none, none, none, none], [(.inl a1), (.inr (4, 0)), (.inr (0, 0))], q1.2) rfl ?_
        by_cases hc3 : a1 < 0 ∨ 12 ≤ a1.toNatClampNeg
        · rw [if_pos hc3] at h
          cases h
        rw [if_neg hc3] at h
        refine fj_aal rfl rfl hc3 ?_
        refine fj_blk 1 (62, 18, [some (.inr (0, 0)), some (.inl a1), some (.inl a2), some (.inl 0), none, none, none, none], [(.inl a2), (.inr (7, a1.toNatClampNeg)), (.inr (0, 0))], q1.2) rfl ?_
        cases hq4 : dm_63 a1.toNatClampNeg a2 q1.2 with
        | none => rw [hq4] at h; cases h
        | some q4 =>
          rw [hq4, Option.bind_some] at h
          refine fj_cl rfl (de_63 X a1.toNatClampNeg a2 q1.2 _ hq4) ?_
          by_cases hc5 : q4.1 = 0
          · rw [if_pos hc5] at h
            refine fj_bt rfl (decide_eq_true hc5) ?_
            exact de_62_34 X a1 a2 0 q4.2 r h
          · rw [if_neg hc5] at h
            refine fj_bf rfl (decide_eq_false hc5) ?_
            refine fj_blk 5 (62, 33, [some (.inr (0, 0)), some (.inl a1), some (.inl a2), some (.inl (0 + 1)), none, none, none, none], [(.inl a1), (.inl 0), (.inr (6, 0))], q4.2) rfl ?_
            refine fj_ast rfl rfl (by decide) ?_
            exact de_62_34 X a1 a2 (0 + 1) ((fj_u1 q4.2.1 6 0 0 a1), q4.2.2) r h
/-- X5_lacksInts -/
def dm_55 (a0 : Nat) (a1 : Int32) (M : fj_M) : Option (Int32 × fj_M) := ((dm_4 a1 M).bind fun q1 => (if q1.1 ≤ (M.1 7 a0 4) then (if a1 = 23 then (if (q1.2.1 7 a0 5) = 0 then some (1, q1.2) else some (0, q1.2)) else (if a1 = 45 then ((dm_13 a0 0 q1.2).bind fun q6 => (if q6.1 < 0 then some (1, q6.2) else ((dm_13 a0 0 q6.2).bind fun q8 => (if q8.1 < ((q8.2.1 7 a0 4) - 1) then some (0, q8.2) else some (1, q8.2))))) else some (0, q1.2))) else some (1, q1.2)))
set_option maxRecDepth 40000 in
theorem de_55 (X : fj_X) (a0 : Nat) (a1 : Int32) (M : fj_M) (r : (Int32 × fj_M)) (h : dm_55 a0 a1 M = some r) : fj_ev X (55, 0, [some (.inr (7, a0)), some (.inl a1)], [], M) (some r.1, r.2) := by
    unfold dm_55 at h
    refine fj_blk 3 (55, 5, [some (.inr (7, a0)), some (.inl a1)], [(.inl a1), (.inl (M.1 7 a0 4))], M) rfl ?_
    cases hq1 : dm_4 a1 M with
    | none => rw [hq1] at h; cases h
    | some q1 =>
      rw [hq1, Option.bind_some] at h
      refine fj_cl rfl (de_4 X a1 M _ hq1) ?_
      by_cases hc2 : q1.1 ≤ (M.1 7 a0 4)
      · rw [if_pos hc2] at h
        refine fj_bt rfl (decide_eq_true hc2) ?_
        refine fj_blk 2 (55, 16, [some (.inr (7, a0)), some (.inl a1)], [(.inl 23), (.inl a1)], q1.2) rfl ?_
        by_cases hc3 : a1 = 23
        · rw [if_pos hc3] at h
          refine fj_bf rfl (fj_nf hc3) ?_
          refine fj_blk 2 (55, 23, [some (.inr (7, a0)), some (.inl a1)], [(.inl (q1.2.1 7 a0 5))], q1.2) rfl ?_
          by_cases hc4 : (q1.2.1 7 a0 5) = 0
          · rw [if_pos hc4] at h
            refine fj_bf rfl (fj_nf hc4) ?_
            refine fj_blk 2 (55, 31, [some (.inr (7, a0)), some (.inl a1)], [(.inl 1)], q1.2) rfl ?_
            cases h
            exact fj_rz rfl rfl (Or.inr rfl)
          · rw [if_neg hc4] at h
            refine fj_bt rfl (fj_nt hc4) ?_
            refine fj_blk 1 (55, 31, [some (.inr (7, a0)), some (.inl a1)], [(.inl 0)], q1.2) rfl ?_
            cases h
            exact fj_rz rfl rfl (Or.inl rfl)
        · rw [if_neg hc3] at h
          refine fj_bt rfl (fj_nt hc3) ?_
          refine fj_blk 2 (55, 35, [some (.inr (7, a0)), some (.inl a1)], [(.inl 45), (.inl a1)], q1.2) rfl ?_
          by_cases hc5 : a1 = 45
          · rw [if_pos hc5] at h
            refine fj_bf rfl (fj_nf hc5) ?_
            refine fj_blk 2 (55, 40, [some (.inr (7, a0)), some (.inl a1)], [(.inl 0), (.inr (7, a0))], q1.2) rfl ?_
            cases hq6 : dm_13 a0 0 q1.2 with
            | none => rw [hq6] at h; cases h
            | some q6 =>
              rw [hq6, Option.bind_some] at h
              refine fj_cl rfl (de_13 X a0 0 q1.2 _ hq6) ?_
              by_cases hc7 : q6.1 < 0
              · rw [if_pos hc7] at h
                refine fj_bt rfl (decide_eq_true hc7) ?_
                refine fj_blk 2 (55, 65, [some (.inr (7, a0)), some (.inl a1)], [(.inl 1)], q6.2) rfl ?_
                cases h
                exact fj_rz rfl rfl (Or.inr rfl)
              · rw [if_neg hc7] at h
                refine fj_bf rfl (decide_eq_false hc7) ?_
                refine fj_blk 2 (55, 48, [some (.inr (7, a0)), some (.inl a1)], [(.inl 0), (.inr (7, a0))], q6.2) rfl ?_
                cases hq8 : dm_13 a0 0 q6.2 with
                | none => rw [hq8] at h; cases h
                | some q8 =>
                  rw [hq8, Option.bind_some] at h
                  refine fj_cl rfl (de_13 X a0 0 q6.2 _ hq8) ?_
                  refine fj_blk 4 (55, 57, [some (.inr (7, a0)), some (.inl a1)], [(.inl ((q8.2.1 7 a0 4) - 1)), (.inl q8.1)], q8.2) rfl ?_
                  by_cases hc9 : q8.1 < ((q8.2.1 7 a0 4) - 1)
                  · rw [if_pos hc9] at h
                    refine fj_bt rfl (decide_eq_true hc9) ?_
                    refine fj_blk 1 (55, 65, [some (.inr (7, a0)), some (.inl a1)], [(.inl 0)], q8.2) rfl ?_
                    cases h
                    exact fj_rz rfl rfl (Or.inl rfl)
                  · rw [if_neg hc9] at h
                    refine fj_bf rfl (decide_eq_false hc9) ?_
                    refine fj_blk 2 (55, 65, [some (.inr (7, a0)), some (.inl a1)], [(.inl 1)], q8.2) rfl ?_
                    cases h
                    exact fj_rz rfl rfl (Or.inr rfl)
          · rw [if_neg hc5] at h
            refine fj_bt rfl (fj_nt hc5) ?_
            refine fj_blk 1 (55, 65, [some (.inr (7, a0)), some (.inl a1)], [(.inl 0)], q1.2) rfl ?_
            cases h
            exact fj_rz rfl rfl (Or.inl rfl)
      · rw [if_neg hc2] at h
        refine fj_bf rfl (decide_eq_false hc2) ?_
        refine fj_blk 1 (55, 12, [some (.inr (7, a0)), some (.inl a1)], [(.inl 1)], q1.2) rfl ?_
        cases h
        exact fj_rz rfl rfl (Or.inr rfl)
/-- X5_isMemoryPlace -/
def dm_36 (a0 : Int32) (M : fj_M) : Option (Int32 × fj_M) := (if a0 < 0 then some (0, M) else (if 64 ≤ a0 then some (0, M) else some (1, M)))
set_option maxRecDepth 40000 in
theorem de_36 (X : fj_X) (a0 : Int32) (M : fj_M) (r : (Int32 × fj_M)) (h : dm_36 a0 M = some r) : fj_ev X (36, 0, [some (.inl a0)], [], M) (some r.1, r.2) := by
    unfold dm_36 at h
    refine fj_blk 1 (36, 1, [some (.inl a0)], [(.inl a0)], M) rfl ?_
    by_cases hc1 : a0 < 0
    · rw [if_pos hc1] at h
      refine fj_bt rfl (decide_eq_true hc1) ?_
      refine fj_blk 1 (36, 15, [some (.inl a0)], [(.inl 0)], M) rfl ?_
      cases h
      exact fj_rz rfl rfl (Or.inl rfl)
    · rw [if_neg hc1] at h
      refine fj_bf rfl (decide_eq_false hc1) ?_
      refine fj_blk 2 (36, 7, [some (.inl a0)], [(.inl 64), (.inl a0)], M) rfl ?_
      by_cases hc2 : 64 ≤ a0
      · rw [if_pos hc2] at h
        refine fj_bt rfl (decide_eq_true hc2) ?_
        refine fj_blk 1 (36, 15, [some (.inl a0)], [(.inl 0)], M) rfl ?_
        cases h
        exact fj_rz rfl rfl (Or.inl rfl)
      · rw [if_neg hc2] at h
        refine fj_bf rfl (decide_eq_false hc2) ?_
        refine fj_blk 2 (36, 15, [some (.inl a0)], [(.inl 1)], M) rfl ?_
        cases h
        exact fj_rz rfl rfl (Or.inr rfl)
/-- X5_lacksPlace -/
def dm_56 (a0 : Int32) (a1 : Int32) (a2 : Int32) (M : fj_M) : Option (Int32 × fj_M) := (if a0 = 20 then ((dm_35 a1 M).bind fun q2 => (if q2.1 = 0 then some (1, q2.2) else some (0, q2.2))) else (if a0 = 21 then ((dm_35 a1 M).bind fun q5 => (if q5.1 = 0 then some (1, q5.2) else some (0, q5.2))) else (if a0 = 22 then ((dm_35 a1 M).bind fun q8 => (if q8.1 = 0 then some (1, q8.2) else some (0, q8.2))) else (if a0 = 23 then some (0, M) else (if a0 = 24 then ((dm_36 a1 M).bind fun q12 => (if q12.1 = 0 then some (1, q12.2) else some (0, q12.2))) else (if a0 = 25 then ((dm_36 a1 M).bind fun q15 => (if q15.1 = 0 then some (1, q15.2) else some (0, q15.2))) else (if a0 = 26 then ((dm_36 a2 M).bind fun q18 => (if q18.1 = 0 then some (1, q18.2) else some (0, q18.2))) else (if a0 = 27 then ((dm_36 a2 M).bind fun q21 => (if q21.1 = 0 then some (1, q21.2) else some (0, q21.2))) else (if a0 = 28 then ((dm_35 a1 M).bind fun q24 => (if q24.1 = 0 then some (1, q24.2) else some (0, q24.2))) else (if a0 = 29 then some (0, M) else (if a0 = 30 then some (0, M) else (if a0 = 31 then some (0, M) else (if a0 = 32 then some (0, M) else (if a0 = 33 then some (0, M) else (if a0 = 34 then some (0, M) else (if a0 = 35 then some (0, M) else (if a0 = 36 then some (0, M) else (if a0 = 37 then some (0, M) else (if a0 = 38 then some (0, M) else (if a0 = 39 then some (0, M) else (if a0 = 40 then some (0, M) else (if a0 = 41 then some (0, M) else (if a0 = 42 then (if a1 = (-1) then some (0, M) else ((dm_35 a1 M).bind fun q41 => (if q41.1 = 0 then some (1, q41.2) else some (0, q41.2)))) else some (0, M))))))))))))))))))))))))
set_option maxRecDepth 40000 in
theorem de_56 (X : fj_X) (a0 : Int32) (a1 : Int32) (a2 : Int32) (M : fj_M) (r : (Int32 × fj_M)) (h : dm_56 a0 a1 a2 M = some r) : fj_ev X (56, 0, [some (.inl a0), some (.inl a1), some (.inl a2)], [], M) (some r.1, r.2) := by
    unfold dm_56 at h
    refine fj_blk 1 (56, 1, [some (.inl a0), some (.inl a1), some (.inl a2)], [(.inl a0)], M) rfl ?_
    by_cases hc1 : a0 = 20
    · rw [if_pos hc1] at h
      refine fj_swg (t := 108) rfl (by rw [hc1]; rfl) ?_
      refine fj_blk 1 (56, 109, [some (.inl a0), some (.inl a1), some (.inl a2)], [(.inl a1)], M) rfl ?_
      cases hq2 : dm_35 a1 M with
      | none => rw [hq2] at h; cases h
      | some q2 =>
        rw [hq2, Option.bind_some] at h
        refine fj_cl rfl (de_35 X a1 M _ hq2) ?_
        by_cases hc3 : q2.1 = 0
        · rw [if_pos hc3] at h
          refine fj_bf rfl (fj_nf hc3) ?_
          refine fj_blk 2 (56, 120, [some (.inl a0), some (.inl a1), some (.inl a2)], [(.inl 1)], q2.2) rfl ?_
          cases h
          exact fj_rz rfl rfl (Or.inr rfl)
        · rw [if_neg hc3] at h
          refine fj_bt rfl (fj_nt hc3) ?_
          refine fj_blk 1 (56, 120, [some (.inl a0), some (.inl a1), some (.inl a2)], [(.inl 0)], q2.2) rfl ?_
          cases h
          exact fj_rz rfl rfl (Or.inl rfl)
    · rw [if_neg hc1] at h
      by_cases hc4 : a0 = 21
      · rw [if_pos hc4] at h
        refine fj_swg (t := 108) rfl (by rw [hc4]; rfl) ?_
        refine fj_blk 1 (56, 109, [some (.inl a0), some (.inl a1), some (.inl a2)], [(.inl a1)], M) rfl ?_
        cases hq5 : dm_35 a1 M with
        | none => rw [hq5] at h; cases h
        | some q5 =>
          rw [hq5, Option.bind_some] at h
          refine fj_cl rfl (de_35 X a1 M _ hq5) ?_
          by_cases hc6 : q5.1 = 0
          · rw [if_pos hc6] at h
            refine fj_bf rfl (fj_nf hc6) ?_
            refine fj_blk 2 (56, 120, [some (.inl a0), some (.inl a1), some (.inl a2)], [(.inl 1)], q5.2) rfl ?_
            cases h
            exact fj_rz rfl rfl (Or.inr rfl)
          · rw [if_neg hc6] at h
            refine fj_bt rfl (fj_nt hc6) ?_
            refine fj_blk 1 (56, 120, [some (.inl a0), some (.inl a1), some (.inl a2)], [(.inl 0)], q5.2) rfl ?_
            cases h
            exact fj_rz rfl rfl (Or.inl rfl)
      · rw [if_neg hc4] at h
        by_cases hc7 : a0 = 22
        · rw [if_pos hc7] at h
          refine fj_swg (t := 108) rfl (by rw [hc7]; rfl) ?_
          refine fj_blk 1 (56, 109, [some (.inl a0), some (.inl a1), some (.inl a2)], [(.inl a1)], M) rfl ?_
          cases hq8 : dm_35 a1 M with
          | none => rw [hq8] at h; cases h
          | some q8 =>
            rw [hq8, Option.bind_some] at h
            refine fj_cl rfl (de_35 X a1 M _ hq8) ?_
            by_cases hc9 : q8.1 = 0
            · rw [if_pos hc9] at h
              refine fj_bf rfl (fj_nf hc9) ?_
              refine fj_blk 2 (56, 120, [some (.inl a0), some (.inl a1), some (.inl a2)], [(.inl 1)], q8.2) rfl ?_
              cases h
              exact fj_rz rfl rfl (Or.inr rfl)
            · rw [if_neg hc9] at h
              refine fj_bt rfl (fj_nt hc9) ?_
              refine fj_blk 1 (56, 120, [some (.inl a0), some (.inl a1), some (.inl a2)], [(.inl 0)], q8.2) rfl ?_
              cases h
              exact fj_rz rfl rfl (Or.inl rfl)
        · rw [if_neg hc7] at h
          by_cases hc10 : a0 = 23
          · rw [if_pos hc10] at h
            refine fj_swg (t := 165) rfl (by rw [hc10]; rfl) ?_
            refine fj_blk 1 (56, 166, [some (.inl a0), some (.inl a1), some (.inl a2)], [(.inl 0)], M) rfl ?_
            cases h
            exact fj_rz rfl rfl (Or.inl rfl)
          · rw [if_neg hc10] at h
            by_cases hc11 : a0 = 24
            · rw [if_pos hc11] at h
              refine fj_swg (t := 139) rfl (by rw [hc11]; rfl) ?_
              refine fj_blk 1 (56, 140, [some (.inl a0), some (.inl a1), some (.inl a2)], [(.inl a1)], M) rfl ?_
              cases hq12 : dm_36 a1 M with
              | none => rw [hq12] at h; cases h
              | some q12 =>
                rw [hq12, Option.bind_some] at h
                refine fj_cl rfl (de_36 X a1 M _ hq12) ?_
                by_cases hc13 : q12.1 = 0
                · rw [if_pos hc13] at h
                  refine fj_bf rfl (fj_nf hc13) ?_
                  refine fj_blk 2 (56, 151, [some (.inl a0), some (.inl a1), some (.inl a2)], [(.inl 1)], q12.2) rfl ?_
                  cases h
                  exact fj_rz rfl rfl (Or.inr rfl)
                · rw [if_neg hc13] at h
                  refine fj_bt rfl (fj_nt hc13) ?_
                  refine fj_blk 1 (56, 151, [some (.inl a0), some (.inl a1), some (.inl a2)], [(.inl 0)], q12.2) rfl ?_
                  cases h
                  exact fj_rz rfl rfl (Or.inl rfl)
            · rw [if_neg hc11] at h
              by_cases hc14 : a0 = 25
              · rw [if_pos hc14] at h
                refine fj_swg (t := 139) rfl (by rw [hc14]; rfl) ?_
                refine fj_blk 1 (56, 140, [some (.inl a0), some (.inl a1), some (.inl a2)], [(.inl a1)], M) rfl ?_
                cases hq15 : dm_36 a1 M with
                | none => rw [hq15] at h; cases h
                | some q15 =>
                  rw [hq15, Option.bind_some] at h
                  refine fj_cl rfl (de_36 X a1 M _ hq15) ?_
                  by_cases hc16 : q15.1 = 0
                  · rw [if_pos hc16] at h
                    refine fj_bf rfl (fj_nf hc16) ?_
                    refine fj_blk 2 (56, 151, [some (.inl a0), some (.inl a1), some (.inl a2)], [(.inl 1)], q15.2) rfl ?_
                    cases h
                    exact fj_rz rfl rfl (Or.inr rfl)
                  · rw [if_neg hc16] at h
                    refine fj_bt rfl (fj_nt hc16) ?_
                    refine fj_blk 1 (56, 151, [some (.inl a0), some (.inl a1), some (.inl a2)], [(.inl 0)], q15.2) rfl ?_
                    cases h
                    exact fj_rz rfl rfl (Or.inl rfl)
              · rw [if_neg hc14] at h
                by_cases hc17 : a0 = 26
                · rw [if_pos hc17] at h
                  refine fj_swg (t := 152) rfl (by rw [hc17]; rfl) ?_
                  refine fj_blk 1 (56, 153, [some (.inl a0), some (.inl a1), some (.inl a2)], [(.inl a2)], M) rfl ?_
                  cases hq18 : dm_36 a2 M with
                  | none => rw [hq18] at h; cases h
                  | some q18 =>
                    rw [hq18, Option.bind_some] at h
                    refine fj_cl rfl (de_36 X a2 M _ hq18) ?_
                    by_cases hc19 : q18.1 = 0
                    · rw [if_pos hc19] at h
                      refine fj_bf rfl (fj_nf hc19) ?_
                      refine fj_blk 2 (56, 164, [some (.inl a0), some (.inl a1), some (.inl a2)], [(.inl 1)], q18.2) rfl ?_
                      cases h
                      exact fj_rz rfl rfl (Or.inr rfl)
                    · rw [if_neg hc19] at h
                      refine fj_bt rfl (fj_nt hc19) ?_
                      refine fj_blk 1 (56, 164, [some (.inl a0), some (.inl a1), some (.inl a2)], [(.inl 0)], q18.2) rfl ?_
                      cases h
                      exact fj_rz rfl rfl (Or.inl rfl)
                · rw [if_neg hc17] at h
                  by_cases hc20 : a0 = 27
                  · rw [if_pos hc20] at h
                    refine fj_swg (t := 152) rfl (by rw [hc20]; rfl) ?_
                    refine fj_blk 1 (56, 153, [some (.inl a0), some (.inl a1), some (.inl a2)], [(.inl a2)], M) rfl ?_
                    cases hq21 : dm_36 a2 M with
                    | none => rw [hq21] at h; cases h
                    | some q21 =>
                      rw [hq21, Option.bind_some] at h
                      refine fj_cl rfl (de_36 X a2 M _ hq21) ?_
                      by_cases hc22 : q21.1 = 0
                      · rw [if_pos hc22] at h
                        refine fj_bf rfl (fj_nf hc22) ?_
                        refine fj_blk 2 (56, 164, [some (.inl a0), some (.inl a1), some (.inl a2)], [(.inl 1)], q21.2) rfl ?_
                        cases h
                        exact fj_rz rfl rfl (Or.inr rfl)
                      · rw [if_neg hc22] at h
                        refine fj_bt rfl (fj_nt hc22) ?_
                        refine fj_blk 1 (56, 164, [some (.inl a0), some (.inl a1), some (.inl a2)], [(.inl 0)], q21.2) rfl ?_
                        cases h
                        exact fj_rz rfl rfl (Or.inl rfl)
                  · rw [if_neg hc20] at h
                    by_cases hc23 : a0 = 28
                    · rw [if_pos hc23] at h
                      refine fj_swg (t := 108) rfl (by rw [hc23]; rfl) ?_
                      refine fj_blk 1 (56, 109, [some (.inl a0), some (.inl a1), some (.inl a2)], [(.inl a1)], M) rfl ?_
                      cases hq24 : dm_35 a1 M with
                      | none => rw [hq24] at h; cases h
                      | some q24 =>
                        rw [hq24, Option.bind_some] at h
                        refine fj_cl rfl (de_35 X a1 M _ hq24) ?_
                        by_cases hc25 : q24.1 = 0
                        · rw [if_pos hc25] at h
                          refine fj_bf rfl (fj_nf hc25) ?_
                          refine fj_blk 2 (56, 120, [some (.inl a0), some (.inl a1), some (.inl a2)], [(.inl 1)], q24.2) rfl ?_
                          cases h
                          exact fj_rz rfl rfl (Or.inr rfl)
                        · rw [if_neg hc25] at h
                          refine fj_bt rfl (fj_nt hc25) ?_
                          refine fj_blk 1 (56, 120, [some (.inl a0), some (.inl a1), some (.inl a2)], [(.inl 0)], q24.2) rfl ?_
                          cases h
                          exact fj_rz rfl rfl (Or.inl rfl)
                    · rw [if_neg hc23] at h
                      by_cases hc26 : a0 = 29
                      · rw [if_pos hc26] at h
                        refine fj_swg (t := 165) rfl (by rw [hc26]; rfl) ?_
                        refine fj_blk 1 (56, 166, [some (.inl a0), some (.inl a1), some (.inl a2)], [(.inl 0)], M) rfl ?_
                        cases h
                        exact fj_rz rfl rfl (Or.inl rfl)
                      · rw [if_neg hc26] at h
                        by_cases hc27 : a0 = 30
                        · rw [if_pos hc27] at h
                          refine fj_swg (t := 165) rfl (by rw [hc27]; rfl) ?_
                          refine fj_blk 1 (56, 166, [some (.inl a0), some (.inl a1), some (.inl a2)], [(.inl 0)], M) rfl ?_
                          cases h
                          exact fj_rz rfl rfl (Or.inl rfl)
                        · rw [if_neg hc27] at h
                          by_cases hc28 : a0 = 31
                          · rw [if_pos hc28] at h
                            refine fj_swg (t := 165) rfl (by rw [hc28]; rfl) ?_
                            refine fj_blk 1 (56, 166, [some (.inl a0), some (.inl a1), some (.inl a2)], [(.inl 0)], M) rfl ?_
                            cases h
                            exact fj_rz rfl rfl (Or.inl rfl)
                          · rw [if_neg hc28] at h
                            by_cases hc29 : a0 = 32
                            · rw [if_pos hc29] at h
                              refine fj_swg (t := 165) rfl (by rw [hc29]; rfl) ?_
                              refine fj_blk 1 (56, 166, [some (.inl a0), some (.inl a1), some (.inl a2)], [(.inl 0)], M) rfl ?_
                              cases h
                              exact fj_rz rfl rfl (Or.inl rfl)
                            · rw [if_neg hc29] at h
                              by_cases hc30 : a0 = 33
                              · rw [if_pos hc30] at h
                                refine fj_swg (t := 165) rfl (by rw [hc30]; rfl) ?_
                                refine fj_blk 1 (56, 166, [some (.inl a0), some (.inl a1), some (.inl a2)], [(.inl 0)], M) rfl ?_
                                cases h
                                exact fj_rz rfl rfl (Or.inl rfl)
                              · rw [if_neg hc30] at h
                                by_cases hc31 : a0 = 34
                                · rw [if_pos hc31] at h
                                  refine fj_swg (t := 165) rfl (by rw [hc31]; rfl) ?_
                                  refine fj_blk 1 (56, 166, [some (.inl a0), some (.inl a1), some (.inl a2)], [(.inl 0)], M) rfl ?_
                                  cases h
                                  exact fj_rz rfl rfl (Or.inl rfl)
                                · rw [if_neg hc31] at h
                                  by_cases hc32 : a0 = 35
                                  · rw [if_pos hc32] at h
                                    refine fj_swg (t := 165) rfl (by rw [hc32]; rfl) ?_
                                    refine fj_blk 1 (56, 166, [some (.inl a0), some (.inl a1), some (.inl a2)], [(.inl 0)], M) rfl ?_
                                    cases h
                                    exact fj_rz rfl rfl (Or.inl rfl)
                                  · rw [if_neg hc32] at h
                                    by_cases hc33 : a0 = 36
                                    · rw [if_pos hc33] at h
                                      refine fj_swg (t := 165) rfl (by rw [hc33]; rfl) ?_
                                      refine fj_blk 1 (56, 166, [some (.inl a0), some (.inl a1), some (.inl a2)], [(.inl 0)], M) rfl ?_
                                      cases h
                                      exact fj_rz rfl rfl (Or.inl rfl)
                                    · rw [if_neg hc33] at h
                                      by_cases hc34 : a0 = 37
                                      · rw [if_pos hc34] at h
                                        refine fj_swg (t := 165) rfl (by rw [hc34]; rfl) ?_
                                        refine fj_blk 1 (56, 166, [some (.inl a0), some (.inl a1), some (.inl a2)], [(.inl 0)], M) rfl ?_
                                        cases h
                                        exact fj_rz rfl rfl (Or.inl rfl)
                                      · rw [if_neg hc34] at h
                                        by_cases hc35 : a0 = 38
                                        · rw [if_pos hc35] at h
                                          refine fj_swg (t := 165) rfl (by rw [hc35]; rfl) ?_
                                          refine fj_blk 1 (56, 166, [some (.inl a0), some (.inl a1), some (.inl a2)], [(.inl 0)], M) rfl ?_
                                          cases h
                                          exact fj_rz rfl rfl (Or.inl rfl)
                                        · rw [if_neg hc35] at h
                                          by_cases hc36 : a0 = 39
                                          · rw [if_pos hc36] at h
                                            refine fj_swg (t := 165) rfl (by rw [hc36]; rfl) ?_
                                            refine fj_blk 1 (56, 166, [some (.inl a0), some (.inl a1), some (.inl a2)], [(.inl 0)], M) rfl ?_
                                            cases h
                                            exact fj_rz rfl rfl (Or.inl rfl)
                                          · rw [if_neg hc36] at h
                                            by_cases hc37 : a0 = 40
                                            · rw [if_pos hc37] at h
                                              refine fj_swg (t := 165) rfl (by rw [hc37]; rfl) ?_
                                              refine fj_blk 1 (56, 166, [some (.inl a0), some (.inl a1), some (.inl a2)], [(.inl 0)], M) rfl ?_
                                              cases h
                                              exact fj_rz rfl rfl (Or.inl rfl)
                                            · rw [if_neg hc37] at h
                                              by_cases hc38 : a0 = 41
                                              · rw [if_pos hc38] at h
                                                refine fj_swg (t := 165) rfl (by rw [hc38]; rfl) ?_
                                                refine fj_blk 1 (56, 166, [some (.inl a0), some (.inl a1), some (.inl a2)], [(.inl 0)], M) rfl ?_
                                                cases h
                                                exact fj_rz rfl rfl (Or.inl rfl)
                                              · rw [if_neg hc38] at h
                                                by_cases hc39 : a0 = 42
                                                · rw [if_pos hc39] at h
                                                  refine fj_swg (t := 121) rfl (by rw [hc39]; rfl) ?_
                                                  refine fj_blk 2 (56, 123, [some (.inl a0), some (.inl a1), some (.inl a2)], [(.inl (-1)), (.inl a1)], M) rfl ?_
                                                  by_cases hc40 : a1 = (-1)
                                                  · rw [if_pos hc40] at h
                                                    refine fj_bt rfl (decide_eq_true hc40) ?_
                                                    refine fj_blk 1 (56, 138, [some (.inl a0), some (.inl a1), some (.inl a2)], [(.inl 0)], M) rfl ?_
                                                    cases h
                                                    exact fj_rz rfl rfl (Or.inl rfl)
                                                  · rw [if_neg hc40] at h
                                                    refine fj_bf rfl (decide_eq_false hc40) ?_
                                                    refine fj_blk 1 (56, 127, [some (.inl a0), some (.inl a1), some (.inl a2)], [(.inl a1)], M) rfl ?_
                                                    cases hq41 : dm_35 a1 M with
                                                    | none => rw [hq41] at h; cases h
                                                    | some q41 =>
                                                      rw [hq41, Option.bind_some] at h
                                                      refine fj_cl rfl (de_35 X a1 M _ hq41) ?_
                                                      by_cases hc42 : q41.1 = 0
                                                      · rw [if_pos hc42] at h
                                                        refine fj_bf rfl (fj_nf hc42) ?_
                                                        refine fj_blk 2 (56, 138, [some (.inl a0), some (.inl a1), some (.inl a2)], [(.inl 1)], q41.2) rfl ?_
                                                        cases h
                                                        exact fj_rz rfl rfl (Or.inr rfl)
                                                      · rw [if_neg hc42] at h
                                                        refine fj_bt rfl (fj_nt hc42) ?_
                                                        refine fj_blk 1 (56, 138, [some (.inl a0), some (.inl a1), some (.inl a2)], [(.inl 0)], q41.2) rfl ?_
                                                        cases h
                                                        exact fj_rz rfl rfl (Or.inl rfl)
                                                · rw [if_neg hc39] at h
                                                  refine fj_swg (t := 165) rfl (by simp only [fj_sw, hc1, hc4, hc7, hc10, hc11, hc14, hc17, hc20, hc23, hc26, hc27, hc28, hc29, hc30, hc31, hc32, hc33, hc34, hc35, hc36, hc37, hc38, hc39, if_false]) ?_
                                                  refine fj_blk 1 (56, 166, [some (.inl a0), some (.inl a1), some (.inl a2)], [(.inl 0)], M) rfl ?_
                                                  cases h
                                                  exact fj_rz rfl rfl (Or.inl rfl)
/-- X5_lacksChannel -/
def dm_57 (a0 : Int32) (a1 : Int32) (M : fj_M) : Option (Int32 × fj_M) := (if a0 = 31 then ((dm_38 a1 M).bind fun q2 => (if q2.1 = 0 then some (1, q2.2) else some (0, q2.2))) else (if a0 = 32 then ((dm_38 a1 M).bind fun q5 => (if q5.1 = 0 then some (1, q5.2) else some (0, q5.2))) else (if a0 = 33 then ((dm_38 a1 M).bind fun q8 => (if q8.1 = 0 then some (1, q8.2) else some (0, q8.2))) else (if a0 = 34 then ((dm_38 a1 M).bind fun q11 => (if q11.1 = 0 then some (1, q11.2) else some (0, q11.2))) else (if a0 = 35 then ((dm_38 (a1 &&& 7) M).bind fun q14 => (if q14.1 = 0 then some (1, q14.2) else ((dm_38 (a1 >>> (3 &&& 31)) q14.2).bind fun q16 => (if q16.1 = 0 then some (1, q16.2) else some (0, q16.2))))) else (if a0 = 36 then some (0, M) else (if a0 = 37 then some (0, M) else (if a0 = 38 then some (0, M) else (if a0 = 39 then some (0, M) else (if a0 = 40 then some (0, M) else (if a0 = 41 then some (0, M) else (if a0 = 42 then some (0, M) else (if a0 = 43 then some (0, M) else (if a0 = 44 then ((dm_38 a1 M).bind fun q27 => (if q27.1 = 0 then some (1, q27.2) else some (0, q27.2))) else some (0, M)))))))))))))))
set_option maxRecDepth 40000 in
theorem de_57 (X : fj_X) (a0 : Int32) (a1 : Int32) (M : fj_M) (r : (Int32 × fj_M)) (h : dm_57 a0 a1 M = some r) : fj_ev X (57, 0, [some (.inl a0), some (.inl a1)], [], M) (some r.1, r.2) := by
    unfold dm_57 at h
    refine fj_blk 1 (57, 1, [some (.inl a0), some (.inl a1)], [(.inl a0)], M) rfl ?_
    by_cases hc1 : a0 = 31
    · rw [if_pos hc1] at h
      refine fj_swg (t := 72) rfl (by rw [hc1]; rfl) ?_
      refine fj_blk 1 (57, 73, [some (.inl a0), some (.inl a1)], [(.inl a1)], M) rfl ?_
      cases hq2 : dm_38 a1 M with
      | none => rw [hq2] at h; cases h
      | some q2 =>
        rw [hq2, Option.bind_some] at h
        refine fj_cl rfl (de_38 X a1 M _ hq2) ?_
        by_cases hc3 : q2.1 = 0
        · rw [if_pos hc3] at h
          refine fj_bf rfl (fj_nf hc3) ?_
          refine fj_blk 2 (57, 84, [some (.inl a0), some (.inl a1)], [(.inl 1)], q2.2) rfl ?_
          cases h
          exact fj_rz rfl rfl (Or.inr rfl)
        · rw [if_neg hc3] at h
          refine fj_bt rfl (fj_nt hc3) ?_
          refine fj_blk 1 (57, 84, [some (.inl a0), some (.inl a1)], [(.inl 0)], q2.2) rfl ?_
          cases h
          exact fj_rz rfl rfl (Or.inl rfl)
    · rw [if_neg hc1] at h
      by_cases hc4 : a0 = 32
      · rw [if_pos hc4] at h
        refine fj_swg (t := 72) rfl (by rw [hc4]; rfl) ?_
        refine fj_blk 1 (57, 73, [some (.inl a0), some (.inl a1)], [(.inl a1)], M) rfl ?_
        cases hq5 : dm_38 a1 M with
        | none => rw [hq5] at h; cases h
        | some q5 =>
          rw [hq5, Option.bind_some] at h
          refine fj_cl rfl (de_38 X a1 M _ hq5) ?_
          by_cases hc6 : q5.1 = 0
          · rw [if_pos hc6] at h
            refine fj_bf rfl (fj_nf hc6) ?_
            refine fj_blk 2 (57, 84, [some (.inl a0), some (.inl a1)], [(.inl 1)], q5.2) rfl ?_
            cases h
            exact fj_rz rfl rfl (Or.inr rfl)
          · rw [if_neg hc6] at h
            refine fj_bt rfl (fj_nt hc6) ?_
            refine fj_blk 1 (57, 84, [some (.inl a0), some (.inl a1)], [(.inl 0)], q5.2) rfl ?_
            cases h
            exact fj_rz rfl rfl (Or.inl rfl)
      · rw [if_neg hc4] at h
        by_cases hc7 : a0 = 33
        · rw [if_pos hc7] at h
          refine fj_swg (t := 72) rfl (by rw [hc7]; rfl) ?_
          refine fj_blk 1 (57, 73, [some (.inl a0), some (.inl a1)], [(.inl a1)], M) rfl ?_
          cases hq8 : dm_38 a1 M with
          | none => rw [hq8] at h; cases h
          | some q8 =>
            rw [hq8, Option.bind_some] at h
            refine fj_cl rfl (de_38 X a1 M _ hq8) ?_
            by_cases hc9 : q8.1 = 0
            · rw [if_pos hc9] at h
              refine fj_bf rfl (fj_nf hc9) ?_
              refine fj_blk 2 (57, 84, [some (.inl a0), some (.inl a1)], [(.inl 1)], q8.2) rfl ?_
              cases h
              exact fj_rz rfl rfl (Or.inr rfl)
            · rw [if_neg hc9] at h
              refine fj_bt rfl (fj_nt hc9) ?_
              refine fj_blk 1 (57, 84, [some (.inl a0), some (.inl a1)], [(.inl 0)], q8.2) rfl ?_
              cases h
              exact fj_rz rfl rfl (Or.inl rfl)
        · rw [if_neg hc7] at h
          by_cases hc10 : a0 = 34
          · rw [if_pos hc10] at h
            refine fj_swg (t := 72) rfl (by rw [hc10]; rfl) ?_
            refine fj_blk 1 (57, 73, [some (.inl a0), some (.inl a1)], [(.inl a1)], M) rfl ?_
            cases hq11 : dm_38 a1 M with
            | none => rw [hq11] at h; cases h
            | some q11 =>
              rw [hq11, Option.bind_some] at h
              refine fj_cl rfl (de_38 X a1 M _ hq11) ?_
              by_cases hc12 : q11.1 = 0
              · rw [if_pos hc12] at h
                refine fj_bf rfl (fj_nf hc12) ?_
                refine fj_blk 2 (57, 84, [some (.inl a0), some (.inl a1)], [(.inl 1)], q11.2) rfl ?_
                cases h
                exact fj_rz rfl rfl (Or.inr rfl)
              · rw [if_neg hc12] at h
                refine fj_bt rfl (fj_nt hc12) ?_
                refine fj_blk 1 (57, 84, [some (.inl a0), some (.inl a1)], [(.inl 0)], q11.2) rfl ?_
                cases h
                exact fj_rz rfl rfl (Or.inl rfl)
          · rw [if_neg hc10] at h
            by_cases hc13 : a0 = 35
            · rw [if_pos hc13] at h
              refine fj_swg (t := 85) rfl (by rw [hc13]; rfl) ?_
              refine fj_blk 3 (57, 89, [some (.inl a0), some (.inl a1)], [(.inl (a1 &&& 7))], M) rfl ?_
              cases hq14 : dm_38 (a1 &&& 7) M with
              | none => rw [hq14] at h; cases h
              | some q14 =>
                rw [hq14, Option.bind_some] at h
                refine fj_cl rfl (de_38 X (a1 &&& 7) M _ hq14) ?_
                by_cases hc15 : q14.1 = 0
                · rw [if_pos hc15] at h
                  refine fj_bt rfl (decide_eq_true hc15) ?_
                  refine fj_blk 2 (57, 109, [some (.inl a0), some (.inl a1)], [(.inl 1)], q14.2) rfl ?_
                  cases h
                  exact fj_rz rfl rfl (Or.inr rfl)
                · rw [if_neg hc15] at h
                  refine fj_bf rfl (decide_eq_false hc15) ?_
                  refine fj_blk 3 (57, 98, [some (.inl a0), some (.inl a1)], [(.inl (a1 >>> (3 &&& 31)))], q14.2) rfl ?_
                  cases hq16 : dm_38 (a1 >>> (3 &&& 31)) q14.2 with
                  | none => rw [hq16] at h; cases h
                  | some q16 =>
                    rw [hq16, Option.bind_some] at h
                    refine fj_cl rfl (de_38 X (a1 >>> (3 &&& 31)) q14.2 _ hq16) ?_
                    by_cases hc17 : q16.1 = 0
                    · rw [if_pos hc17] at h
                      refine fj_bf rfl (fj_nf hc17) ?_
                      refine fj_blk 2 (57, 109, [some (.inl a0), some (.inl a1)], [(.inl 1)], q16.2) rfl ?_
                      cases h
                      exact fj_rz rfl rfl (Or.inr rfl)
                    · rw [if_neg hc17] at h
                      refine fj_bt rfl (fj_nt hc17) ?_
                      refine fj_blk 1 (57, 109, [some (.inl a0), some (.inl a1)], [(.inl 0)], q16.2) rfl ?_
                      cases h
                      exact fj_rz rfl rfl (Or.inl rfl)
            · rw [if_neg hc13] at h
              by_cases hc18 : a0 = 36
              · rw [if_pos hc18] at h
                refine fj_swg (t := 110) rfl (by rw [hc18]; rfl) ?_
                refine fj_blk 1 (57, 111, [some (.inl a0), some (.inl a1)], [(.inl 0)], M) rfl ?_
                cases h
                exact fj_rz rfl rfl (Or.inl rfl)
              · rw [if_neg hc18] at h
                by_cases hc19 : a0 = 37
                · rw [if_pos hc19] at h
                  refine fj_swg (t := 110) rfl (by rw [hc19]; rfl) ?_
                  refine fj_blk 1 (57, 111, [some (.inl a0), some (.inl a1)], [(.inl 0)], M) rfl ?_
                  cases h
                  exact fj_rz rfl rfl (Or.inl rfl)
                · rw [if_neg hc19] at h
                  by_cases hc20 : a0 = 38
                  · rw [if_pos hc20] at h
                    refine fj_swg (t := 110) rfl (by rw [hc20]; rfl) ?_
                    refine fj_blk 1 (57, 111, [some (.inl a0), some (.inl a1)], [(.inl 0)], M) rfl ?_
                    cases h
                    exact fj_rz rfl rfl (Or.inl rfl)
                  · rw [if_neg hc20] at h
                    by_cases hc21 : a0 = 39
                    · rw [if_pos hc21] at h
                      refine fj_swg (t := 110) rfl (by rw [hc21]; rfl) ?_
                      refine fj_blk 1 (57, 111, [some (.inl a0), some (.inl a1)], [(.inl 0)], M) rfl ?_
                      cases h
                      exact fj_rz rfl rfl (Or.inl rfl)
                    · rw [if_neg hc21] at h
                      by_cases hc22 : a0 = 40
                      · rw [if_pos hc22] at h
                        refine fj_swg (t := 110) rfl (by rw [hc22]; rfl) ?_
                        refine fj_blk 1 (57, 111, [some (.inl a0), some (.inl a1)], [(.inl 0)], M) rfl ?_
                        cases h
                        exact fj_rz rfl rfl (Or.inl rfl)
                      · rw [if_neg hc22] at h
                        by_cases hc23 : a0 = 41
                        · rw [if_pos hc23] at h
                          refine fj_swg (t := 110) rfl (by rw [hc23]; rfl) ?_
                          refine fj_blk 1 (57, 111, [some (.inl a0), some (.inl a1)], [(.inl 0)], M) rfl ?_
                          cases h
                          exact fj_rz rfl rfl (Or.inl rfl)
                        · rw [if_neg hc23] at h
                          by_cases hc24 : a0 = 42
                          · rw [if_pos hc24] at h
                            refine fj_swg (t := 110) rfl (by rw [hc24]; rfl) ?_
                            refine fj_blk 1 (57, 111, [some (.inl a0), some (.inl a1)], [(.inl 0)], M) rfl ?_
                            cases h
                            exact fj_rz rfl rfl (Or.inl rfl)
                          · rw [if_neg hc24] at h
                            by_cases hc25 : a0 = 43
                            · rw [if_pos hc25] at h
                              refine fj_swg (t := 110) rfl (by rw [hc25]; rfl) ?_
                              refine fj_blk 1 (57, 111, [some (.inl a0), some (.inl a1)], [(.inl 0)], M) rfl ?_
                              cases h
                              exact fj_rz rfl rfl (Or.inl rfl)
                            · rw [if_neg hc25] at h
                              by_cases hc26 : a0 = 44
                              · rw [if_pos hc26] at h
                                refine fj_swg (t := 72) rfl (by rw [hc26]; rfl) ?_
                                refine fj_blk 1 (57, 73, [some (.inl a0), some (.inl a1)], [(.inl a1)], M) rfl ?_
                                cases hq27 : dm_38 a1 M with
                                | none => rw [hq27] at h; cases h
                                | some q27 =>
                                  rw [hq27, Option.bind_some] at h
                                  refine fj_cl rfl (de_38 X a1 M _ hq27) ?_
                                  by_cases hc28 : q27.1 = 0
                                  · rw [if_pos hc28] at h
                                    refine fj_bf rfl (fj_nf hc28) ?_
                                    refine fj_blk 2 (57, 84, [some (.inl a0), some (.inl a1)], [(.inl 1)], q27.2) rfl ?_
                                    cases h
                                    exact fj_rz rfl rfl (Or.inr rfl)
                                  · rw [if_neg hc28] at h
                                    refine fj_bt rfl (fj_nt hc28) ?_
                                    refine fj_blk 1 (57, 84, [some (.inl a0), some (.inl a1)], [(.inl 0)], q27.2) rfl ?_
                                    cases h
                                    exact fj_rz rfl rfl (Or.inl rfl)
                              · rw [if_neg hc26] at h
                                refine fj_swg (t := 110) rfl (by simp only [fj_sw, hc1, hc4, hc7, hc10, hc13, hc18, hc19, hc20, hc21, hc22, hc23, hc24, hc25, hc26, if_false]) ?_
                                refine fj_blk 1 (57, 111, [some (.inl a0), some (.inl a1)], [(.inl 0)], M) rfl ?_
                                cases h
                                exact fj_rz rfl rfl (Or.inl rfl)
/-- X5_lacksTask -/
def dm_58 (a1 : Int32) (M : fj_M) : Option (Int32 × fj_M) := ((dm_37 a1 M).bind fun q1 => (if q1.1 = 0 then some (1, q1.2) else (if a1 = (q1.2.1 0 0 8) then some (1, q1.2) else (if a1 < 0 ∨ 12 ≤ a1.toNatClampNeg then none else (if (q1.2.1 7 a1.toNatClampNeg 2) = 0 then some (1, q1.2) else some (0, q1.2))))))
set_option maxRecDepth 40000 in
theorem de_58 (X : fj_X) (a1 : Int32) (M : fj_M) (r : (Int32 × fj_M)) (h : dm_58 a1 M = some r) : fj_ev X (58, 0, [some (.inr (0, 0)), some (.inl a1)], [], M) (some r.1, r.2) := by
    unfold dm_58 at h
    refine fj_blk 1 (58, 1, [some (.inr (0, 0)), some (.inl a1)], [(.inl a1)], M) rfl ?_
    cases hq1 : dm_37 a1 M with
    | none => rw [hq1] at h; cases h
    | some q1 =>
      rw [hq1, Option.bind_some] at h
      refine fj_cl rfl (de_37 X a1 M _ hq1) ?_
      by_cases hc2 : q1.1 = 0
      · rw [if_pos hc2] at h
        refine fj_bt rfl (decide_eq_true hc2) ?_
        refine fj_blk 2 (58, 32, [some (.inr (0, 0)), some (.inl a1)], [(.inl 1)], q1.2) rfl ?_
        cases h
        exact fj_rz rfl rfl (Or.inr rfl)
      · rw [if_neg hc2] at h
        refine fj_bf rfl (decide_eq_false hc2) ?_
        refine fj_blk 3 (58, 12, [some (.inr (0, 0)), some (.inl a1)], [(.inl (q1.2.1 0 0 8)), (.inl a1)], q1.2) rfl ?_
        by_cases hc3 : a1 = (q1.2.1 0 0 8)
        · rw [if_pos hc3] at h
          refine fj_bt rfl (decide_eq_true hc3) ?_
          refine fj_blk 2 (58, 32, [some (.inr (0, 0)), some (.inl a1)], [(.inl 1)], q1.2) rfl ?_
          cases h
          exact fj_rz rfl rfl (Or.inr rfl)
        · rw [if_neg hc3] at h
          refine fj_bf rfl (decide_eq_false hc3) ?_
          refine fj_blk 3 (58, 20, [some (.inr (0, 0)), some (.inl a1)], [(.inl a1), (.inr (4, 0))], q1.2) rfl ?_
          by_cases hc4 : a1 < 0 ∨ 12 ≤ a1.toNatClampNeg
          · rw [if_pos hc4] at h
            cases h
          rw [if_neg hc4] at h
          refine fj_aal rfl rfl hc4 ?_
          refine fj_blk 1 (58, 24, [some (.inr (0, 0)), some (.inl a1)], [(.inl (q1.2.1 7 a1.toNatClampNeg 2))], q1.2) rfl ?_
          by_cases hc5 : (q1.2.1 7 a1.toNatClampNeg 2) = 0
          · rw [if_pos hc5] at h
            refine fj_bf rfl (fj_nf hc5) ?_
            refine fj_blk 2 (58, 32, [some (.inr (0, 0)), some (.inl a1)], [(.inl 1)], q1.2) rfl ?_
            cases h
            exact fj_rz rfl rfl (Or.inr rfl)
          · rw [if_neg hc5] at h
            refine fj_bt rfl (fj_nt hc5) ?_
            refine fj_blk 1 (58, 32, [some (.inr (0, 0)), some (.inl a1)], [(.inl 0)], q1.2) rfl ?_
            cases h
            exact fj_rz rfl rfl (Or.inl rfl)
/-- X5_comingBy -/
def dm_61 (a1 : Int32) (a2 : Int32) (M : fj_M) : Option (Int32 × fj_M) := (if a1 = 32 then ((dm_41 a2 M).bind fun q2 => (if q2.1 = 0 then some (0, q2.2) else some (1, q2.2))) else (if a1 = 33 then ((dm_5 a1 M).bind fun q5 => some (q5.1, q5.2)) else (if a1 = 34 then ((dm_41 a2 M).bind fun q7 => (if q7.1 = 0 then some (1, q7.2) else some (2, q7.2))) else (if a1 = 35 then ((dm_41 (a2 &&& 7) M).bind fun q10 => (if q10.1 = 0 then ((dm_41 (a2 >>> (3 &&& 31)) q10.2).bind fun q12 => (if q12.1 = 0 then some (0, q12.2) else some (2, q12.2))) else some (2, q10.2))) else ((dm_5 a1 M).bind fun q14 => some (q14.1, q14.2))))))
set_option maxRecDepth 40000 in
theorem de_61 (X : fj_X) (a1 : Int32) (a2 : Int32) (M : fj_M) (r : (Int32 × fj_M)) (h : dm_61 a1 a2 M = some r) : fj_ev X (61, 0, [some (.inr (0, 0)), some (.inl a1), some (.inl a2)], [], M) (some r.1, r.2) := by
    unfold dm_61 at h
    refine fj_blk 1 (61, 1, [some (.inr (0, 0)), some (.inl a1), some (.inl a2)], [(.inl a1)], M) rfl ?_
    by_cases hc1 : a1 = 32
    · rw [if_pos hc1] at h
      refine fj_swg (t := 32) rfl (by rw [hc1]; rfl) ?_
      refine fj_blk 2 (61, 34, [some (.inr (0, 0)), some (.inl a1), some (.inl a2)], [(.inl a2), (.inr (0, 0))], M) rfl ?_
      cases hq2 : dm_41 a2 M with
      | none => rw [hq2] at h; cases h
      | some q2 =>
        rw [hq2, Option.bind_some] at h
        refine fj_cl rfl (de_41 X a2 M _ hq2) ?_
        by_cases hc3 : q2.1 = 0
        · rw [if_pos hc3] at h
          refine fj_bt rfl (decide_eq_true hc3) ?_
          refine fj_blk 1 (61, 45, [some (.inr (0, 0)), some (.inl a1), some (.inl a2)], [(.inl 0)], q2.2) rfl ?_
          cases h
          exact fj_ri rfl rfl
        · rw [if_neg hc3] at h
          refine fj_bf rfl (decide_eq_false hc3) ?_
          refine fj_blk 2 (61, 45, [some (.inr (0, 0)), some (.inl a1), some (.inl a2)], [(.inl 1)], q2.2) rfl ?_
          cases h
          exact fj_ri rfl rfl
    · rw [if_neg hc1] at h
      by_cases hc4 : a1 = 33
      · rw [if_pos hc4] at h
        refine fj_swg (t := 87) rfl (by rw [hc4]; rfl) ?_
        refine fj_blk 1 (61, 88, [some (.inr (0, 0)), some (.inl a1), some (.inl a2)], [(.inl a1)], M) rfl ?_
        cases hq5 : dm_5 a1 M with
        | none => rw [hq5] at h; cases h
        | some q5 =>
          rw [hq5, Option.bind_some] at h
          refine fj_cl rfl (de_5 X a1 M _ hq5) ?_
          cases h
          exact fj_ri rfl rfl
      · rw [if_neg hc4] at h
        by_cases hc6 : a1 = 34
        · rw [if_pos hc6] at h
          refine fj_swg (t := 46) rfl (by rw [hc6]; rfl) ?_
          refine fj_blk 2 (61, 48, [some (.inr (0, 0)), some (.inl a1), some (.inl a2)], [(.inl a2), (.inr (0, 0))], M) rfl ?_
          cases hq7 : dm_41 a2 M with
          | none => rw [hq7] at h; cases h
          | some q7 =>
            rw [hq7, Option.bind_some] at h
            refine fj_cl rfl (de_41 X a2 M _ hq7) ?_
            by_cases hc8 : q7.1 = 0
            · rw [if_pos hc8] at h
              refine fj_bt rfl (decide_eq_true hc8) ?_
              refine fj_blk 1 (61, 59, [some (.inr (0, 0)), some (.inl a1), some (.inl a2)], [(.inl 1)], q7.2) rfl ?_
              cases h
              exact fj_ri rfl rfl
            · rw [if_neg hc8] at h
              refine fj_bf rfl (decide_eq_false hc8) ?_
              refine fj_blk 2 (61, 59, [some (.inr (0, 0)), some (.inl a1), some (.inl a2)], [(.inl 2)], q7.2) rfl ?_
              cases h
              exact fj_ri rfl rfl
        · rw [if_neg hc6] at h
          by_cases hc9 : a1 = 35
          · rw [if_pos hc9] at h
            refine fj_swg (t := 60) rfl (by rw [hc9]; rfl) ?_
            refine fj_blk 4 (61, 65, [some (.inr (0, 0)), some (.inl a1), some (.inl a2)], [(.inl (a2 &&& 7)), (.inr (0, 0))], M) rfl ?_
            cases hq10 : dm_41 (a2 &&& 7) M with
            | none => rw [hq10] at h; cases h
            | some q10 =>
              rw [hq10, Option.bind_some] at h
              refine fj_cl rfl (de_41 X (a2 &&& 7) M _ hq10) ?_
              by_cases hc11 : q10.1 = 0
              · rw [if_pos hc11] at h
                refine fj_bf rfl (fj_nf hc11) ?_
                refine fj_blk 4 (61, 75, [some (.inr (0, 0)), some (.inl a1), some (.inl a2)], [(.inl (a2 >>> (3 &&& 31))), (.inr (0, 0))], q10.2) rfl ?_
                cases hq12 : dm_41 (a2 >>> (3 &&& 31)) q10.2 with
                | none => rw [hq12] at h; cases h
                | some q12 =>
                  rw [hq12, Option.bind_some] at h
                  refine fj_cl rfl (de_41 X (a2 >>> (3 &&& 31)) q10.2 _ hq12) ?_
                  by_cases hc13 : q12.1 = 0
                  · rw [if_pos hc13] at h
                    refine fj_bt rfl (decide_eq_true hc13) ?_
                    refine fj_blk 1 (61, 86, [some (.inr (0, 0)), some (.inl a1), some (.inl a2)], [(.inl 0)], q12.2) rfl ?_
                    cases h
                    exact fj_ri rfl rfl
                  · rw [if_neg hc13] at h
                    refine fj_bf rfl (decide_eq_false hc13) ?_
                    refine fj_blk 2 (61, 86, [some (.inr (0, 0)), some (.inl a1), some (.inl a2)], [(.inl 2)], q12.2) rfl ?_
                    cases h
                    exact fj_ri rfl rfl
              · rw [if_neg hc11] at h
                refine fj_bt rfl (fj_nt hc11) ?_
                refine fj_blk 2 (61, 86, [some (.inr (0, 0)), some (.inl a1), some (.inl a2)], [(.inl 2)], q10.2) rfl ?_
                cases h
                exact fj_ri rfl rfl
          · rw [if_neg hc9] at h
            refine fj_swg (t := 87) rfl (by simp only [fj_sw, hc1, hc4, hc6, hc9, if_false]) ?_
            refine fj_blk 1 (61, 88, [some (.inr (0, 0)), some (.inl a1), some (.inl a2)], [(.inl a1)], M) rfl ?_
            cases hq14 : dm_5 a1 M with
            | none => rw [hq14] at h; cases h
            | some q14 =>
              rw [hq14, Option.bind_some] at h
              refine fj_cl rfl (de_5 X a1 M _ hq14) ?_
              cases h
              exact fj_ri rfl rfl
/-- X5_overflows -/
def dm_60 (a1 : Nat) (a2 : Int32) (a3 : Int32) (M : fj_M) : Option (Int32 × fj_M) := (if a2 = 22 then (if (M.1 7 a1 5) < 12 then some (0, M) else some (1, M)) else ((dm_4 a2 M).bind fun q3 => ((dm_61 a2 a3 q3.2).bind fun q4 => (if (((M.1 7 a1 4) - q3.1) + q4.1) ≤ 24 then some (0, q4.2) else some (1, q4.2)))))
set_option maxRecDepth 40000 in
theorem de_60 (X : fj_X) (a1 : Nat) (a2 : Int32) (a3 : Int32) (M : fj_M) (r : (Int32 × fj_M)) (h : dm_60 a1 a2 a3 M = some r) : fj_ev X (60, 0, [some (.inr (0, 0)), some (.inr (7, a1)), some (.inl a2), some (.inl a3)], [], M) (some r.1, r.2) := by
    unfold dm_60 at h
    refine fj_blk 2 (60, 3, [some (.inr (0, 0)), some (.inr (7, a1)), some (.inl a2), some (.inl a3)], [(.inl 22), (.inl a2)], M) rfl ?_
    by_cases hc1 : a2 = 22
    · rw [if_pos hc1] at h
      refine fj_bf rfl (fj_nf hc1) ?_
      refine fj_blk 3 (60, 12, [some (.inr (0, 0)), some (.inr (7, a1)), some (.inl a2), some (.inl a3)], [(.inl 12), (.inl (M.1 7 a1 5))], M) rfl ?_
      by_cases hc2 : (M.1 7 a1 5) < 12
      · rw [if_pos hc2] at h
        refine fj_bt rfl (decide_eq_true hc2) ?_
        refine fj_blk 1 (60, 20, [some (.inr (0, 0)), some (.inr (7, a1)), some (.inl a2), some (.inl a3)], [(.inl 0)], M) rfl ?_
        cases h
        exact fj_rz rfl rfl (Or.inl rfl)
      · rw [if_neg hc2] at h
        refine fj_bf rfl (decide_eq_false hc2) ?_
        refine fj_blk 2 (60, 20, [some (.inr (0, 0)), some (.inr (7, a1)), some (.inl a2), some (.inl a3)], [(.inl 1)], M) rfl ?_
        cases h
        exact fj_rz rfl rfl (Or.inr rfl)
    · rw [if_neg hc1] at h
      refine fj_bt rfl (fj_nt hc1) ?_
      refine fj_blk 3 (60, 26, [some (.inr (0, 0)), some (.inr (7, a1)), some (.inl a2), some (.inl a3)], [(.inl a2), (.inl (M.1 7 a1 4))], M) rfl ?_
      cases hq3 : dm_4 a2 M with
      | none => rw [hq3] at h; cases h
      | some q3 =>
        rw [hq3, Option.bind_some] at h
        refine fj_cl rfl (de_4 X a2 M _ hq3) ?_
        refine fj_blk 4 (60, 33, [some (.inr (0, 0)), some (.inr (7, a1)), some (.inl a2), some (.inl a3)], [(.inl a3), (.inl a2), (.inr (0, 0)), (.inl ((M.1 7 a1 4) - q3.1))], q3.2) rfl ?_
        cases hq4 : dm_61 a2 a3 q3.2 with
        | none => rw [hq4] at h; cases h
        | some q4 =>
          rw [hq4, Option.bind_some] at h
          refine fj_cl rfl (de_61 X a2 a3 q3.2 _ hq4) ?_
          refine fj_blk 2 (60, 39, [some (.inr (0, 0)), some (.inr (7, a1)), some (.inl a2), some (.inl a3)], [(.inl 24), (.inl (((M.1 7 a1 4) - q3.1) + q4.1))], q4.2) rfl ?_
          by_cases hc5 : (((M.1 7 a1 4) - q3.1) + q4.1) ≤ 24
          · rw [if_pos hc5] at h
            refine fj_bt rfl (decide_eq_true hc5) ?_
            refine fj_blk 1 (60, 47, [some (.inr (0, 0)), some (.inr (7, a1)), some (.inl a2), some (.inl a3)], [(.inl 0)], q4.2) rfl ?_
            cases h
            exact fj_rz rfl rfl (Or.inl rfl)
          · rw [if_neg hc5] at h
            refine fj_bf rfl (decide_eq_false hc5) ?_
            refine fj_blk 2 (60, 47, [some (.inr (0, 0)), some (.inr (7, a1)), some (.inl a2), some (.inl a3)], [(.inl 1)], q4.2) rfl ?_
            cases h
            exact fj_rz rfl rfl (Or.inr rfl)
/-- X5_isFaulted -/
def dm_59 (a1 : Int32) (M : fj_M) : Option (Int32 × fj_M) := ((dm_37 a1 M).bind fun q1 => (if q1.1 = 0 then some (0, q1.2) else (if a1 < 0 ∨ 12 ≤ a1.toNatClampNeg then none else (if (q1.2.1 7 a1.toNatClampNeg 2) = 8 then some (1, q1.2) else some (0, q1.2)))))
set_option maxRecDepth 40000 in
theorem de_59 (X : fj_X) (a1 : Int32) (M : fj_M) (r : (Int32 × fj_M)) (h : dm_59 a1 M = some r) : fj_ev X (59, 0, [some (.inr (0, 0)), some (.inl a1)], [], M) (some r.1, r.2) := by
    unfold dm_59 at h
    refine fj_blk 1 (59, 1, [some (.inr (0, 0)), some (.inl a1)], [(.inl a1)], M) rfl ?_
    cases hq1 : dm_37 a1 M with
    | none => rw [hq1] at h; cases h
    | some q1 =>
      rw [hq1, Option.bind_some] at h
      refine fj_cl rfl (de_37 X a1 M _ hq1) ?_
      by_cases hc2 : q1.1 = 0
      · rw [if_pos hc2] at h
        refine fj_bt rfl (decide_eq_true hc2) ?_
        refine fj_blk 1 (59, 26, [some (.inr (0, 0)), some (.inl a1)], [(.inl 0)], q1.2) rfl ?_
        cases h
        exact fj_rz rfl rfl (Or.inl rfl)
      · rw [if_neg hc2] at h
        refine fj_bf rfl (decide_eq_false hc2) ?_
        refine fj_blk 3 (59, 12, [some (.inr (0, 0)), some (.inl a1)], [(.inl a1), (.inr (4, 0))], q1.2) rfl ?_
        by_cases hc3 : a1 < 0 ∨ 12 ≤ a1.toNatClampNeg
        · rw [if_pos hc3] at h
          cases h
        rw [if_neg hc3] at h
        refine fj_aal rfl rfl hc3 ?_
        refine fj_blk 2 (59, 18, [some (.inr (0, 0)), some (.inl a1)], [(.inl 8), (.inl (q1.2.1 7 a1.toNatClampNeg 2))], q1.2) rfl ?_
        by_cases hc4 : (q1.2.1 7 a1.toNatClampNeg 2) = 8
        · rw [if_pos hc4] at h
          refine fj_bf rfl (fj_nf hc4) ?_
          refine fj_blk 2 (59, 26, [some (.inr (0, 0)), some (.inl a1)], [(.inl 1)], q1.2) rfl ?_
          cases h
          exact fj_rz rfl rfl (Or.inr rfl)
        · rw [if_neg hc4] at h
          refine fj_bt rfl (fj_nt hc4) ?_
          refine fj_blk 1 (59, 26, [some (.inr (0, 0)), some (.inl a1)], [(.inl 0)], q1.2) rfl ?_
          cases h
          exact fj_rz rfl rfl (Or.inl rfl)
def dm_54_110  (a1 : Nat) (a2 : Int32) (a3 : Int32) (a4 : Int32) (a5 : Int32) (M : fj_M) : Option (Int32 × fj_M) := ((dm_60 a1 a2 a3 M).bind fun q1 => (if q1.1 = 0 then (if a2 = 43 then ((dm_59 a4 q1.2).bind fun q4 => (if q4.1 = 0 then some (0, q4.2) else some (8, q4.2))) else some (0, q1.2)) else some (3, q1.2)))
set_option maxRecDepth 40000 in
theorem de_54_110 (X : fj_X) (a1 : Nat) (a2 : Int32) (a3 : Int32) (a4 : Int32) (a5 : Int32) (M : fj_M) (r : (Int32 × fj_M)) (h : dm_54_110 a1 a2 a3 a4 a5 M = some r) : fj_ev X (54, 110, [some (.inr (0, 0)), some (.inr (7, a1)), some (.inl a2), some (.inl a3), some (.inl a4), some (.inl a5)], [], M) (some r.1, r.2) := by
    unfold dm_54_110 at h
    refine fj_blk 4 (54, 114, [some (.inr (0, 0)), some (.inr (7, a1)), some (.inl a2), some (.inl a3), some (.inl a4), some (.inl a5)], [(.inl a3), (.inl a2), (.inr (7, a1)), (.inr (0, 0))], M) rfl ?_
    cases hq1 : dm_60 a1 a2 a3 M with
    | none => rw [hq1] at h; cases h
    | some q1 =>
      rw [hq1, Option.bind_some] at h
      refine fj_cl rfl (de_60 X a1 a2 a3 M _ hq1) ?_
      by_cases hc2 : q1.1 = 0
      · rw [if_pos hc2] at h
        refine fj_bt rfl (decide_eq_true hc2) ?_
        refine fj_blk 2 (54, 125, [some (.inr (0, 0)), some (.inr (7, a1)), some (.inl a2), some (.inl a3), some (.inl a4), some (.inl a5)], [(.inl 43), (.inl a2)], q1.2) rfl ?_
        by_cases hc3 : a2 = 43
        · rw [if_pos hc3] at h
          refine fj_bf rfl (fj_nf hc3) ?_
          refine fj_blk 2 (54, 131, [some (.inr (0, 0)), some (.inr (7, a1)), some (.inl a2), some (.inl a3), some (.inl a4), some (.inl a5)], [(.inl a4), (.inr (0, 0))], q1.2) rfl ?_
          cases hq4 : dm_59 a4 q1.2 with
          | none => rw [hq4] at h; cases h
          | some q4 =>
            rw [hq4, Option.bind_some] at h
            refine fj_cl rfl (de_59 X a4 q1.2 _ hq4) ?_
            by_cases hc5 : q4.1 = 0
            · rw [if_pos hc5] at h
              refine fj_bt rfl (decide_eq_true hc5) ?_
              refine fj_blk 1 (54, 143, [some (.inr (0, 0)), some (.inr (7, a1)), some (.inl a2), some (.inl a3), some (.inl a4), some (.inl a5)], [(.inl 0)], q4.2) rfl ?_
              cases h
              exact fj_ri rfl rfl
            · rw [if_neg hc5] at h
              refine fj_bf rfl (decide_eq_false hc5) ?_
              refine fj_blk 2 (54, 143, [some (.inr (0, 0)), some (.inr (7, a1)), some (.inl a2), some (.inl a3), some (.inl a4), some (.inl a5)], [(.inl 8)], q4.2) rfl ?_
              cases h
              exact fj_ri rfl rfl
        · rw [if_neg hc3] at h
          refine fj_bt rfl (fj_nt hc3) ?_
          refine fj_blk 1 (54, 143, [some (.inr (0, 0)), some (.inr (7, a1)), some (.inl a2), some (.inl a3), some (.inl a4), some (.inl a5)], [(.inl 0)], q1.2) rfl ?_
          cases h
          exact fj_ri rfl rfl
      · rw [if_neg hc2] at h
        refine fj_bf rfl (decide_eq_false hc2) ?_
        refine fj_blk 1 (54, 121, [some (.inr (0, 0)), some (.inr (7, a1)), some (.inl a2), some (.inl a3), some (.inl a4), some (.inl a5)], [(.inl 3)], q1.2) rfl ?_
        cases h
        exact fj_ri rfl rfl
def dm_54_91  (a1 : Nat) (a2 : Int32) (a3 : Int32) (a4 : Int32) (s0 : Int32) (M : fj_M) : Option (Int32 × fj_M) := (if s0 = 0 then dm_54_110 a1 a2 a3 a4 s0 M else ((dm_58 a4 M).bind fun q2 => (if q2.1 = 0 then dm_54_110 a1 a2 a3 a4 s0 q2.2 else some (7, q2.2))))
set_option maxRecDepth 40000 in
theorem de_54_91 (X : fj_X) (a1 : Nat) (a2 : Int32) (a3 : Int32) (a4 : Int32) (s0 : Int32) (M : fj_M) (r : (Int32 × fj_M)) (h : dm_54_91 a1 a2 a3 a4 s0 M = some r) : fj_ev X (54, 91, [some (.inr (0, 0)), some (.inr (7, a1)), some (.inl a2), some (.inl a3), some (.inl a4), none], [(.inl s0)], M) (some r.1, r.2) := by
    unfold dm_54_91 at h
    refine fj_blk 2 (54, 95, [some (.inr (0, 0)), some (.inr (7, a1)), some (.inl a2), some (.inl a3), some (.inl a4), some (.inl s0)], [(.inl s0)], M) rfl ?_
    by_cases hc1 : s0 = 0
    · rw [if_pos hc1] at h
      refine fj_bt rfl (decide_eq_true hc1) ?_
      exact de_54_110 X a1 a2 a3 a4 s0 M r h
    · rw [if_neg hc1] at h
      refine fj_bf rfl (decide_eq_false hc1) ?_
      refine fj_blk 2 (54, 101, [some (.inr (0, 0)), some (.inr (7, a1)), some (.inl a2), some (.inl a3), some (.inl a4), some (.inl s0)], [(.inl a4), (.inr (0, 0))], M) rfl ?_
      cases hq2 : dm_58 a4 M with
      | none => rw [hq2] at h; cases h
      | some q2 =>
        rw [hq2, Option.bind_some] at h
        refine fj_cl rfl (de_58 X a4 M _ hq2) ?_
        by_cases hc3 : q2.1 = 0
        · rw [if_pos hc3] at h
          refine fj_bt rfl (decide_eq_true hc3) ?_
          exact de_54_110 X a1 a2 a3 a4 s0 q2.2 r h
        · rw [if_neg hc3] at h
          refine fj_bf rfl (decide_eq_false hc3) ?_
          refine fj_blk 1 (54, 109, [some (.inr (0, 0)), some (.inr (7, a1)), some (.inl a2), some (.inl a3), some (.inl a4), some (.inl s0)], [(.inl 7)], q2.2) rfl ?_
          cases h
          exact fj_ri rfl rfl
def dm_54_86  (a1 : Nat) (a2 : Int32) (a3 : Int32) (a4 : Int32) (M : fj_M) : Option (Int32 × fj_M) := dm_54_91 a1 a2 a3 a4 1 M
set_option maxRecDepth 40000 in
theorem de_54_86 (X : fj_X) (a1 : Nat) (a2 : Int32) (a3 : Int32) (a4 : Int32) (M : fj_M) (r : (Int32 × fj_M)) (h : dm_54_86 a1 a2 a3 a4 M = some r) : fj_ev X (54, 86, [some (.inr (0, 0)), some (.inr (7, a1)), some (.inl a2), some (.inl a3), some (.inl a4), none], [], M) (some r.1, r.2) := by
    unfold dm_54_86 at h
    refine fj_blk 2 (54, 91, [some (.inr (0, 0)), some (.inr (7, a1)), some (.inl a2), some (.inl a3), some (.inl a4), none], [(.inl 1)], M) rfl ?_
    exact de_54_91 X a1 a2 a3 a4 1 M r h
def dm_54_45  (a1 : Nat) (a2 : Int32) (a3 : Int32) (a4 : Int32) (M : fj_M) : Option (Int32 × fj_M) := ((dm_56 a2 a3 a4 M).bind fun q1 => (if q1.1 = 0 then ((dm_57 a2 a3 q1.2).bind fun q3 => (if q3.1 = 0 then (if a2 = 40 then dm_54_86 a1 a2 a3 a4 q3.2 else (if a2 = 41 then dm_54_86 a1 a2 a3 a4 q3.2 else (if a2 = 43 then dm_54_86 a1 a2 a3 a4 q3.2 else dm_54_91 a1 a2 a3 a4 0 q3.2))) else some (6, q3.2))) else some (5, q1.2)))
set_option maxRecDepth 40000 in
theorem de_54_45 (X : fj_X) (a1 : Nat) (a2 : Int32) (a3 : Int32) (a4 : Int32) (M : fj_M) (r : (Int32 × fj_M)) (h : dm_54_45 a1 a2 a3 a4 M = some r) : fj_ev X (54, 45, [some (.inr (0, 0)), some (.inr (7, a1)), some (.inl a2), some (.inl a3), some (.inl a4), none], [], M) (some r.1, r.2) := by
    unfold dm_54_45 at h
    refine fj_blk 3 (54, 49, [some (.inr (0, 0)), some (.inr (7, a1)), some (.inl a2), some (.inl a3), some (.inl a4), none], [(.inl a4), (.inl a3), (.inl a2)], M) rfl ?_
    cases hq1 : dm_56 a2 a3 a4 M with
    | none => rw [hq1] at h; cases h
    | some q1 =>
      rw [hq1, Option.bind_some] at h
      refine fj_cl rfl (de_56 X a2 a3 a4 M _ hq1) ?_
      by_cases hc2 : q1.1 = 0
      · rw [if_pos hc2] at h
        refine fj_bt rfl (decide_eq_true hc2) ?_
        refine fj_blk 2 (54, 59, [some (.inr (0, 0)), some (.inr (7, a1)), some (.inl a2), some (.inl a3), some (.inl a4), none], [(.inl a3), (.inl a2)], q1.2) rfl ?_
        cases hq3 : dm_57 a2 a3 q1.2 with
        | none => rw [hq3] at h; cases h
        | some q3 =>
          rw [hq3, Option.bind_some] at h
          refine fj_cl rfl (de_57 X a2 a3 q1.2 _ hq3) ?_
          by_cases hc4 : q3.1 = 0
          · rw [if_pos hc4] at h
            refine fj_bt rfl (decide_eq_true hc4) ?_
            refine fj_blk 2 (54, 71, [some (.inr (0, 0)), some (.inr (7, a1)), some (.inl a2), some (.inl a3), some (.inl a4), none], [(.inl 40), (.inl a2)], q3.2) rfl ?_
            by_cases hc5 : a2 = 40
            · rw [if_pos hc5] at h
              refine fj_bt rfl (decide_eq_true hc5) ?_
              exact de_54_86 X a1 a2 a3 a4 q3.2 r h
            · rw [if_neg hc5] at h
              refine fj_bf rfl (decide_eq_false hc5) ?_
              refine fj_blk 2 (54, 77, [some (.inr (0, 0)), some (.inr (7, a1)), some (.inl a2), some (.inl a3), some (.inl a4), none], [(.inl 41), (.inl a2)], q3.2) rfl ?_
              by_cases hc6 : a2 = 41
              · rw [if_pos hc6] at h
                refine fj_bt rfl (decide_eq_true hc6) ?_
                exact de_54_86 X a1 a2 a3 a4 q3.2 r h
              · rw [if_neg hc6] at h
                refine fj_bf rfl (decide_eq_false hc6) ?_
                refine fj_blk 2 (54, 83, [some (.inr (0, 0)), some (.inr (7, a1)), some (.inl a2), some (.inl a3), some (.inl a4), none], [(.inl 43), (.inl a2)], q3.2) rfl ?_
                by_cases hc7 : a2 = 43
                · rw [if_pos hc7] at h
                  refine fj_bf rfl (fj_nf hc7) ?_
                  exact de_54_86 X a1 a2 a3 a4 q3.2 r h
                · rw [if_neg hc7] at h
                  refine fj_bt rfl (fj_nt hc7) ?_
                  refine fj_blk 1 (54, 91, [some (.inr (0, 0)), some (.inr (7, a1)), some (.inl a2), some (.inl a3), some (.inl a4), none], [(.inl 0)], q3.2) rfl ?_
                  exact de_54_91 X a1 a2 a3 a4 0 q3.2 r h
          · rw [if_neg hc4] at h
            refine fj_bf rfl (decide_eq_false hc4) ?_
            refine fj_blk 1 (54, 67, [some (.inr (0, 0)), some (.inr (7, a1)), some (.inl a2), some (.inl a3), some (.inl a4), none], [(.inl 6)], q3.2) rfl ?_
            cases h
            exact fj_ri rfl rfl
      · rw [if_neg hc2] at h
        refine fj_bf rfl (decide_eq_false hc2) ?_
        refine fj_blk 1 (54, 56, [some (.inr (0, 0)), some (.inr (7, a1)), some (.inl a2), some (.inl a3), some (.inl a4), none], [(.inl 5)], q1.2) rfl ?_
        cases h
        exact fj_ri rfl rfl
def dm_54_38  (a1 : Nat) (a2 : Int32) (a3 : Int32) (a4 : Int32) (M : fj_M) : Option (Int32 × fj_M) := (if a4 = 0 then some (4, M) else dm_54_45 a1 a2 a3 a4 M)
set_option maxRecDepth 40000 in
theorem de_54_38 (X : fj_X) (a1 : Nat) (a2 : Int32) (a3 : Int32) (a4 : Int32) (M : fj_M) (r : (Int32 × fj_M)) (h : dm_54_38 a1 a2 a3 a4 M = some r) : fj_ev X (54, 38, [some (.inr (0, 0)), some (.inr (7, a1)), some (.inl a2), some (.inl a3), some (.inl a4), none], [], M) (some r.1, r.2) := by
    unfold dm_54_38 at h
    refine fj_blk 1 (54, 40, [some (.inr (0, 0)), some (.inr (7, a1)), some (.inl a2), some (.inl a3), some (.inl a4), none], [(.inl a4)], M) rfl ?_
    by_cases hc1 : a4 = 0
    · rw [if_pos hc1] at h
      refine fj_bf rfl (fj_nf hc1) ?_
      refine fj_blk 1 (54, 44, [some (.inr (0, 0)), some (.inr (7, a1)), some (.inl a2), some (.inl a3), some (.inl a4), none], [(.inl 4)], M) rfl ?_
      cases h
      exact fj_ri rfl rfl
    · rw [if_neg hc1] at h
      refine fj_bt rfl (fj_nt hc1) ?_
      exact de_54_45 X a1 a2 a3 a4 M r h
/-- X5_faultOf -/
def dm_54 (a1 : Nat) (a2 : Int32) (a3 : Int32) (M : fj_M) : Option (Int32 × fj_M) := ((dm_2 a2 M).bind fun q1 => (if q1.1 = 0 then some (1, q1.2) else ((dm_55 a1 a2 q1.2).bind fun q3 => (if q3.1 = 0 then ((dm_13 a1 0 q3.2).bind fun q5 => (if a2 = 9 then dm_54_38 a1 a2 a3 q5.1 q5.2 else (if a2 = 10 then dm_54_38 a1 a2 a3 q5.1 q5.2 else dm_54_45 a1 a2 a3 q5.1 q5.2))) else some (2, q3.2)))))
set_option maxRecDepth 40000 in
theorem de_54 (X : fj_X) (a1 : Nat) (a2 : Int32) (a3 : Int32) (M : fj_M) (r : (Int32 × fj_M)) (h : dm_54 a1 a2 a3 M = some r) : fj_ev X (54, 0, [some (.inr (0, 0)), some (.inr (7, a1)), some (.inl a2), some (.inl a3), none, none], [], M) (some r.1, r.2) := by
    unfold dm_54 at h
    refine fj_blk 1 (54, 1, [some (.inr (0, 0)), some (.inr (7, a1)), some (.inl a2), some (.inl a3), none, none], [(.inl a2)], M) rfl ?_
    cases hq1 : dm_2 a2 M with
    | none => rw [hq1] at h; cases h
    | some q1 =>
      rw [hq1, Option.bind_some] at h
      refine fj_cl rfl (de_2 X a2 M _ hq1) ?_
      by_cases hc2 : q1.1 = 0
      · rw [if_pos hc2] at h
        refine fj_bf rfl (fj_nf hc2) ?_
        refine fj_blk 1 (54, 8, [some (.inr (0, 0)), some (.inr (7, a1)), some (.inl a2), some (.inl a3), none, none], [(.inl 1)], q1.2) rfl ?_
        cases h
        exact fj_ri rfl rfl
      · rw [if_neg hc2] at h
        refine fj_bt rfl (fj_nt hc2) ?_
        refine fj_blk 2 (54, 11, [some (.inr (0, 0)), some (.inr (7, a1)), some (.inl a2), some (.inl a3), none, none], [(.inl a2), (.inr (7, a1))], q1.2) rfl ?_
        cases hq3 : dm_55 a1 a2 q1.2 with
        | none => rw [hq3] at h; cases h
        | some q3 =>
          rw [hq3, Option.bind_some] at h
          refine fj_cl rfl (de_55 X a1 a2 q1.2 _ hq3) ?_
          by_cases hc4 : q3.1 = 0
          · rw [if_pos hc4] at h
            refine fj_bt rfl (decide_eq_true hc4) ?_
            refine fj_blk 2 (54, 21, [some (.inr (0, 0)), some (.inr (7, a1)), some (.inl a2), some (.inl a3), none, none], [(.inl 0), (.inr (7, a1))], q3.2) rfl ?_
            cases hq5 : dm_13 a1 0 q3.2 with
            | none => rw [hq5] at h; cases h
            | some q5 =>
              rw [hq5, Option.bind_some] at h
              refine fj_cl rfl (de_13 X a1 0 q3.2 _ hq5) ?_
              refine fj_blk 3 (54, 29, [some (.inr (0, 0)), some (.inr (7, a1)), some (.inl a2), some (.inl a3), some (.inl q5.1), none], [(.inl 9), (.inl a2)], q5.2) rfl ?_
              by_cases hc6 : a2 = 9
              · rw [if_pos hc6] at h
                refine fj_bt rfl (decide_eq_true hc6) ?_
                exact de_54_38 X a1 a2 a3 q5.1 q5.2 r h
              · rw [if_neg hc6] at h
                refine fj_bf rfl (decide_eq_false hc6) ?_
                refine fj_blk 2 (54, 35, [some (.inr (0, 0)), some (.inr (7, a1)), some (.inl a2), some (.inl a3), some (.inl q5.1), none], [(.inl 10), (.inl a2)], q5.2) rfl ?_
                by_cases hc7 : a2 = 10
                · rw [if_pos hc7] at h
                  refine fj_bf rfl (fj_nf hc7) ?_
                  exact de_54_38 X a1 a2 a3 q5.1 q5.2 r h
                · rw [if_neg hc7] at h
                  refine fj_bt rfl (fj_nt hc7) ?_
                  exact de_54_45 X a1 a2 a3 q5.1 q5.2 r h
          · rw [if_neg hc4] at h
            refine fj_bf rfl (decide_eq_false hc4) ?_
            refine fj_blk 1 (54, 18, [some (.inr (0, 0)), some (.inr (7, a1)), some (.inl a2), some (.inl a3), none, none], [(.inl 2)], q3.2) rfl ?_
            cases h
            exact fj_ri rfl rfl
def dm_53_100  (a1 : Nat) (a2 : Int32) (a3 : Int32) (M : fj_M) : Option (Int32 × fj_M) := ((dm_48 a1 M).bind fun q1 => (if q1.1 = 0 then some (1, q1.2) else some (0, ((fj_u1 q1.2.1 7 a1 2 1), q1.2.2))))
set_option maxRecDepth 40000 in
theorem de_53_100 (X : fj_X) (a1 : Nat) (a2 : Int32) (a3 : Int32) (M : fj_M) (r : (Int32 × fj_M)) (h : dm_53_100 a1 a2 a3 M = some r) : fj_ev X (53, 100, [some (.inr (0, 0)), some (.inr (7, a1)), some (.inl a2), some (.inl a3)], [], M) (some r.1, r.2) := by
    unfold dm_53_100 at h
    refine fj_blk 2 (53, 102, [some (.inr (0, 0)), some (.inr (7, a1)), some (.inl a2), some (.inl a3)], [(.inr (7, a1)), (.inr (0, 0))], M) rfl ?_
    cases hq1 : dm_48 a1 M with
    | none => rw [hq1] at h; cases h
    | some q1 =>
      rw [hq1, Option.bind_some] at h
      refine fj_cl rfl (de_48 X a1 M _ hq1) ?_
      by_cases hc2 : q1.1 = 0
      · rw [if_pos hc2] at h
        refine fj_bt rfl (decide_eq_true hc2) ?_
        refine fj_blk 1 (53, 116, [some (.inr (0, 0)), some (.inr (7, a1)), some (.inl a2), some (.inl a3)], [(.inl 1)], q1.2) rfl ?_
        cases h
        exact fj_rz rfl rfl (Or.inr rfl)
      · rw [if_neg hc2] at h
        refine fj_bf rfl (decide_eq_false hc2) ?_
        refine fj_blk 4 (53, 114, [some (.inr (0, 0)), some (.inr (7, a1)), some (.inl a2), some (.inl a3)], [(.inl 0)], ((fj_u1 q1.2.1 7 a1 2 1), q1.2.2)) rfl ?_
        cases h
        exact fj_rz rfl rfl (Or.inl rfl)
/-- X5_mustWait -/
def dm_53 (a1 : Nat) (a2 : Int32) (a3 : Int32) (M : fj_M) : Option (Int32 × fj_M) := (if a2 = 31 then ((dm_10 a1 2 a3 a3 M).bind fun q2 => dm_53_100 a1 a2 a3 q2) else (if a2 = 32 then ((dm_10 a1 3 a3 a3 M).bind fun q4 => dm_53_100 a1 a2 a3 q4) else (if a2 = 35 then ((dm_10 a1 4 (a3 &&& 7) (a3 >>> (3 &&& 31)) M).bind fun q6 => dm_53_100 a1 a2 a3 q6) else (if a2 = 41 then ((dm_13 a1 0 M).bind fun q8 => ((dm_13 a1 0 q8.2).bind fun q9 => ((dm_10 a1 6 q8.1 q9.1 q9.2).bind fun q10 => dm_53_100 a1 a2 a3 q10))) else some (0, M)))))
set_option maxRecDepth 40000 in
theorem de_53 (X : fj_X) (a1 : Nat) (a2 : Int32) (a3 : Int32) (M : fj_M) (r : (Int32 × fj_M)) (h : dm_53 a1 a2 a3 M = some r) : fj_ev X (53, 0, [some (.inr (0, 0)), some (.inr (7, a1)), some (.inl a2), some (.inl a3)], [], M) (some r.1, r.2) := by
    unfold dm_53 at h
    refine fj_blk 1 (53, 1, [some (.inr (0, 0)), some (.inr (7, a1)), some (.inl a2), some (.inl a3)], [(.inl a2)], M) rfl ?_
    by_cases hc1 : a2 = 31
    · rw [if_pos hc1] at h
      refine fj_swg (t := 44) rfl (by rw [hc1]; rfl) ?_
      refine fj_blk 4 (53, 48, [some (.inr (0, 0)), some (.inr (7, a1)), some (.inl a2), some (.inl a3)], [(.inl a3), (.inl a3), (.inl 2), (.inr (7, a1))], M) rfl ?_
      cases hq2 : dm_10 a1 2 a3 a3 M with
      | none => rw [hq2] at h; cases h
      | some q2 =>
        rw [hq2, Option.bind_some] at h
        refine fj_cl rfl (de_10 X a1 2 a3 a3 M _ hq2) ?_
        refine fj_blk 1 (53, 100, [some (.inr (0, 0)), some (.inr (7, a1)), some (.inl a2), some (.inl a3)], [], q2) rfl ?_
        exact de_53_100 X a1 a2 a3 q2 r h
    · rw [if_neg hc1] at h
      by_cases hc3 : a2 = 32
      · rw [if_pos hc3] at h
        refine fj_swg (t := 54) rfl (by rw [hc3]; rfl) ?_
        refine fj_blk 4 (53, 58, [some (.inr (0, 0)), some (.inr (7, a1)), some (.inl a2), some (.inl a3)], [(.inl a3), (.inl a3), (.inl 3), (.inr (7, a1))], M) rfl ?_
        cases hq4 : dm_10 a1 3 a3 a3 M with
        | none => rw [hq4] at h; cases h
        | some q4 =>
          rw [hq4, Option.bind_some] at h
          refine fj_cl rfl (de_10 X a1 3 a3 a3 M _ hq4) ?_
          refine fj_blk 1 (53, 100, [some (.inr (0, 0)), some (.inr (7, a1)), some (.inl a2), some (.inl a3)], [], q4) rfl ?_
          exact de_53_100 X a1 a2 a3 q4 r h
      · rw [if_neg hc3] at h
        by_cases hc5 : a2 = 35
        · rw [if_pos hc5] at h
          refine fj_swg (t := 64) rfl (by rw [hc5]; rfl) ?_
          refine fj_blk 8 (53, 73, [some (.inr (0, 0)), some (.inr (7, a1)), some (.inl a2), some (.inl a3)], [(.inl (a3 >>> (3 &&& 31))), (.inl (a3 &&& 7)), (.inl 4), (.inr (7, a1))], M) rfl ?_
          cases hq6 : dm_10 a1 4 (a3 &&& 7) (a3 >>> (3 &&& 31)) M with
          | none => rw [hq6] at h; cases h
          | some q6 =>
            rw [hq6, Option.bind_some] at h
            refine fj_cl rfl (de_10 X a1 4 (a3 &&& 7) (a3 >>> (3 &&& 31)) M _ hq6) ?_
            refine fj_blk 1 (53, 100, [some (.inr (0, 0)), some (.inr (7, a1)), some (.inl a2), some (.inl a3)], [], q6) rfl ?_
            exact de_53_100 X a1 a2 a3 q6 r h
        · rw [if_neg hc5] at h
          by_cases hc7 : a2 = 41
          · rw [if_pos hc7] at h
            refine fj_swg (t := 79) rfl (by rw [hc7]; rfl) ?_
            refine fj_blk 4 (53, 84, [some (.inr (0, 0)), some (.inr (7, a1)), some (.inl a2), some (.inl a3)], [(.inl 0), (.inr (7, a1)), (.inl 6), (.inr (7, a1))], M) rfl ?_
            cases hq8 : dm_13 a1 0 M with
            | none => rw [hq8] at h; cases h
            | some q8 =>
              rw [hq8, Option.bind_some] at h
              refine fj_cl rfl (de_13 X a1 0 M _ hq8) ?_
              refine fj_blk 2 (53, 89, [some (.inr (0, 0)), some (.inr (7, a1)), some (.inl a2), some (.inl a3)], [(.inl 0), (.inr (7, a1)), (.inl q8.1), (.inl 6), (.inr (7, a1))], q8.2) rfl ?_
              cases hq9 : dm_13 a1 0 q8.2 with
              | none => rw [hq9] at h; cases h
              | some q9 =>
                rw [hq9, Option.bind_some] at h
                refine fj_cl rfl (de_13 X a1 0 q8.2 _ hq9) ?_
                cases hq10 : dm_10 a1 6 q8.1 q9.1 q9.2 with
                | none => rw [hq10] at h; cases h
                | some q10 =>
                  rw [hq10, Option.bind_some] at h
                  refine fj_cl rfl (de_10 X a1 6 q8.1 q9.1 q9.2 _ hq10) ?_
                  refine fj_blk 1 (53, 100, [some (.inr (0, 0)), some (.inr (7, a1)), some (.inl a2), some (.inl a3)], [], q10) rfl ?_
                  exact de_53_100 X a1 a2 a3 q10 r h
          · rw [if_neg hc7] at h
            refine fj_swg (t := 98) rfl (by simp only [fj_sw, hc1, hc3, hc5, hc7, if_false]) ?_
            refine fj_blk 1 (53, 99, [some (.inr (0, 0)), some (.inr (7, a1)), some (.inl a2), some (.inl a3)], [(.inl 0)], M) rfl ?_
            cases h
            exact fj_rz rfl rfl (Or.inl rfl)
/-- X5_swap -/
def dm_66 (a0 : Nat) (M : fj_M) : Option fj_M := ((dm_12 a0 M).bind fun q1 => ((dm_12 a0 q1.2).bind fun q2 => ((dm_11 a0 q1.1 q2.2).bind fun q3 => ((dm_11 a0 q2.1 q3).bind fun q4 => some q4))))
set_option maxRecDepth 40000 in
theorem de_66 (X : fj_X) (a0 : Nat) (M : fj_M) (r : fj_M) (h : dm_66 a0 M = some r) : fj_ev X (66, 0, [some (.inr (7, a0)), none, none], [], M) (none, r) := by
    unfold dm_66 at h
    refine fj_blk 1 (66, 1, [some (.inr (7, a0)), none, none], [(.inr (7, a0))], M) rfl ?_
    cases hq1 : dm_12 a0 M with
    | none => rw [hq1] at h; cases h
    | some q1 =>
      rw [hq1, Option.bind_some] at h
      refine fj_cl rfl (de_12 X a0 M _ hq1) ?_
      refine fj_blk 2 (66, 6, [some (.inr (7, a0)), some (.inl q1.1), none], [(.inr (7, a0))], q1.2) rfl ?_
      cases hq2 : dm_12 a0 q1.2 with
      | none => rw [hq2] at h; cases h
      | some q2 =>
        rw [hq2, Option.bind_some] at h
        refine fj_cl rfl (de_12 X a0 q1.2 _ hq2) ?_
        refine fj_blk 3 (66, 12, [some (.inr (7, a0)), some (.inl q1.1), some (.inl q2.1)], [(.inl q1.1), (.inr (7, a0))], q2.2) rfl ?_
        cases hq3 : dm_11 a0 q1.1 q2.2 with
        | none => rw [hq3] at h; cases h
        | some q3 =>
          rw [hq3, Option.bind_some] at h
          refine fj_cl rfl (de_11 X a0 q1.1 q2.2 _ hq3) ?_
          refine fj_blk 2 (66, 17, [some (.inr (7, a0)), some (.inl q1.1), some (.inl q2.1)], [(.inl q2.1), (.inr (7, a0))], q3) rfl ?_
          cases hq4 : dm_11 a0 q2.1 q3 with
          | none => rw [hq4] at h; cases h
          | some q4 =>
            rw [hq4, Option.bind_some] at h
            refine fj_cl rfl (de_11 X a0 q2.1 q3 _ hq4) ?_
            cases h
            exact fj_rv rfl rfl
/-- X5_combine -/
def dm_67 (a0 : Int32) (a1 : Int32) (a2 : Int32) (M : fj_M) : Option (Int32 × fj_M) := (if a0 = 6 then some (a1 + a2, M) else (if a0 = 7 then some (a1 - a2, M) else (if a0 = 8 then some (a1 * a2, M) else (if a0 = 9 then (if a2 = 0 then some (0, M) else (if a2 = 0 then none else some (a1 / a2, M))) else (if a0 = 10 then (if a2 = 0 then some (0, M) else (if a2 = 0 then none else some (a1 - a1 / a2 * a2, M))) else (if a0 = 11 then some (0, M) else (if a0 = 12 then some (a1 &&& a2, M) else (if a0 = 13 then some (a1 ||| a2, M) else (if a0 = 14 then some (a1 ^^^ a2, M) else (if a0 = 15 then some (a1 <<< ((a2 &&& 31) &&& 31), M) else (if a0 = 16 then some (a1 >>> ((a2 &&& 31) &&& 31), M) else (if a0 = 17 then (if a2 ≤ a1 then some (0, M) else some (1, M)) else (if a0 = 18 then (if a1 = a2 then some (1, M) else some (0, M)) else some (0, M))))))))))))))
set_option maxRecDepth 40000 in
theorem de_67 (X : fj_X) (a0 : Int32) (a1 : Int32) (a2 : Int32) (M : fj_M) (r : (Int32 × fj_M)) (h : dm_67 a0 a1 a2 M = some r) : fj_ev X (67, 0, [some (.inl a0), some (.inl a1), some (.inl a2)], [], M) (some r.1, r.2) := by
    unfold dm_67 at h
    refine fj_blk 1 (67, 1, [some (.inl a0), some (.inl a1), some (.inl a2)], [(.inl a0)], M) rfl ?_
    by_cases hc1 : a0 = 6
    · rw [if_pos hc1] at h
      refine fj_swg (t := 68) rfl (by rw [hc1]; rfl) ?_
      refine fj_blk 3 (67, 71, [some (.inl a0), some (.inl a1), some (.inl a2)], [(.inl (a1 + a2))], M) rfl ?_
      cases h
      exact fj_ri rfl rfl
    · rw [if_neg hc1] at h
      by_cases hc2 : a0 = 7
      · rw [if_pos hc2] at h
        refine fj_swg (t := 72) rfl (by rw [hc2]; rfl) ?_
        refine fj_blk 3 (67, 75, [some (.inl a0), some (.inl a1), some (.inl a2)], [(.inl (a1 - a2))], M) rfl ?_
        cases h
        exact fj_ri rfl rfl
      · rw [if_neg hc2] at h
        by_cases hc3 : a0 = 8
        · rw [if_pos hc3] at h
          refine fj_swg (t := 76) rfl (by rw [hc3]; rfl) ?_
          refine fj_blk 3 (67, 79, [some (.inl a0), some (.inl a1), some (.inl a2)], [(.inl (a1 * a2))], M) rfl ?_
          cases h
          exact fj_ri rfl rfl
        · rw [if_neg hc3] at h
          by_cases hc4 : a0 = 9
          · rw [if_pos hc4] at h
            refine fj_swg (t := 80) rfl (by rw [hc4]; rfl) ?_
            refine fj_blk 1 (67, 81, [some (.inl a0), some (.inl a1), some (.inl a2)], [(.inl a2)], M) rfl ?_
            by_cases hc5 : a2 = 0
            · rw [if_pos hc5] at h
              refine fj_bf rfl (fj_nf hc5) ?_
              refine fj_blk 2 (67, 91, [some (.inl a0), some (.inl a1), some (.inl a2)], [(.inl 0)], M) rfl ?_
              cases h
              exact fj_ri rfl rfl
            · rw [if_neg hc5] at h
              refine fj_bt rfl (fj_nt hc5) ?_
              refine fj_blk 2 (67, 90, [some (.inl a0), some (.inl a1), some (.inl a2)], [(.inl a2), (.inl a1)], M) rfl ?_
              by_cases hc6 : a2 = 0
              · rw [if_pos hc6] at h
                cases h
              rw [if_neg hc6] at h
              refine fj_idv rfl hc6 ?_
              cases h
              exact fj_ri rfl rfl
          · rw [if_neg hc4] at h
            by_cases hc7 : a0 = 10
            · rw [if_pos hc7] at h
              refine fj_swg (t := 92) rfl (by rw [hc7]; rfl) ?_
              refine fj_blk 1 (67, 93, [some (.inl a0), some (.inl a1), some (.inl a2)], [(.inl a2)], M) rfl ?_
              by_cases hc8 : a2 = 0
              · rw [if_pos hc8] at h
                refine fj_bf rfl (fj_nf hc8) ?_
                refine fj_blk 2 (67, 103, [some (.inl a0), some (.inl a1), some (.inl a2)], [(.inl 0)], M) rfl ?_
                cases h
                exact fj_ri rfl rfl
              · rw [if_neg hc8] at h
                refine fj_bt rfl (fj_nt hc8) ?_
                refine fj_blk 2 (67, 102, [some (.inl a0), some (.inl a1), some (.inl a2)], [(.inl a2), (.inl a1)], M) rfl ?_
                by_cases hc9 : a2 = 0
                · rw [if_pos hc9] at h
                  cases h
                rw [if_neg hc9] at h
                refine fj_irm rfl hc9 ?_
                cases h
                exact fj_ri rfl rfl
            · rw [if_neg hc7] at h
              by_cases hc10 : a0 = 11
              · rw [if_pos hc10] at h
                refine fj_swg (t := 152) rfl (by rw [hc10]; rfl) ?_
                refine fj_blk 1 (67, 153, [some (.inl a0), some (.inl a1), some (.inl a2)], [(.inl 0)], M) rfl ?_
                cases h
                exact fj_ri rfl rfl
              · rw [if_neg hc10] at h
                by_cases hc11 : a0 = 12
                · rw [if_pos hc11] at h
                  refine fj_swg (t := 104) rfl (by rw [hc11]; rfl) ?_
                  refine fj_blk 3 (67, 107, [some (.inl a0), some (.inl a1), some (.inl a2)], [(.inl (a1 &&& a2))], M) rfl ?_
                  cases h
                  exact fj_ri rfl rfl
                · rw [if_neg hc11] at h
                  by_cases hc12 : a0 = 13
                  · rw [if_pos hc12] at h
                    refine fj_swg (t := 108) rfl (by rw [hc12]; rfl) ?_
                    refine fj_blk 3 (67, 111, [some (.inl a0), some (.inl a1), some (.inl a2)], [(.inl (a1 ||| a2))], M) rfl ?_
                    cases h
                    exact fj_ri rfl rfl
                  · rw [if_neg hc12] at h
                    by_cases hc13 : a0 = 14
                    · rw [if_pos hc13] at h
                      refine fj_swg (t := 112) rfl (by rw [hc13]; rfl) ?_
                      refine fj_blk 3 (67, 115, [some (.inl a0), some (.inl a1), some (.inl a2)], [(.inl (a1 ^^^ a2))], M) rfl ?_
                      cases h
                      exact fj_ri rfl rfl
                    · rw [if_neg hc13] at h
                      by_cases hc14 : a0 = 15
                      · rw [if_pos hc14] at h
                        refine fj_swg (t := 116) rfl (by rw [hc14]; rfl) ?_
                        refine fj_blk 5 (67, 122, [some (.inl a0), some (.inl a1), some (.inl a2)], [(.inl (a1 <<< ((a2 &&& 31) &&& 31)))], M) rfl ?_
                        cases h
                        exact fj_ri rfl rfl
                      · rw [if_neg hc14] at h
                        by_cases hc15 : a0 = 16
                        · rw [if_pos hc15] at h
                          refine fj_swg (t := 123) rfl (by rw [hc15]; rfl) ?_
                          refine fj_blk 5 (67, 129, [some (.inl a0), some (.inl a1), some (.inl a2)], [(.inl (a1 >>> ((a2 &&& 31) &&& 31)))], M) rfl ?_
                          cases h
                          exact fj_ri rfl rfl
                        · rw [if_neg hc15] at h
                          by_cases hc16 : a0 = 17
                          · rw [if_pos hc16] at h
                            refine fj_swg (t := 130) rfl (by rw [hc16]; rfl) ?_
                            refine fj_blk 2 (67, 132, [some (.inl a0), some (.inl a1), some (.inl a2)], [(.inl a2), (.inl a1)], M) rfl ?_
                            by_cases hc17 : a2 ≤ a1
                            · rw [if_pos hc17] at h
                              refine fj_bt rfl (decide_eq_true hc17) ?_
                              refine fj_blk 1 (67, 140, [some (.inl a0), some (.inl a1), some (.inl a2)], [(.inl 0)], M) rfl ?_
                              cases h
                              exact fj_ri rfl rfl
                            · rw [if_neg hc17] at h
                              refine fj_bf rfl (decide_eq_false hc17) ?_
                              refine fj_blk 2 (67, 140, [some (.inl a0), some (.inl a1), some (.inl a2)], [(.inl 1)], M) rfl ?_
                              cases h
                              exact fj_ri rfl rfl
                          · rw [if_neg hc16] at h
                            by_cases hc18 : a0 = 18
                            · rw [if_pos hc18] at h
                              refine fj_swg (t := 141) rfl (by rw [hc18]; rfl) ?_
                              refine fj_blk 2 (67, 143, [some (.inl a0), some (.inl a1), some (.inl a2)], [(.inl a2), (.inl a1)], M) rfl ?_
                              by_cases hc19 : a1 = a2
                              · rw [if_pos hc19] at h
                                refine fj_bf rfl (fj_nf hc19) ?_
                                refine fj_blk 2 (67, 151, [some (.inl a0), some (.inl a1), some (.inl a2)], [(.inl 1)], M) rfl ?_
                                cases h
                                exact fj_ri rfl rfl
                              · rw [if_neg hc19] at h
                                refine fj_bt rfl (fj_nt hc19) ?_
                                refine fj_blk 1 (67, 151, [some (.inl a0), some (.inl a1), some (.inl a2)], [(.inl 0)], M) rfl ?_
                                cases h
                                exact fj_ri rfl rfl
                            · rw [if_neg hc18] at h
                              refine fj_swg (t := 152) rfl (by simp only [fj_sw, hc1, hc2, hc3, hc4, hc7, hc10, hc11, hc12, hc13, hc14, hc15, hc16, hc18, if_false]) ?_
                              refine fj_blk 1 (67, 153, [some (.inl a0), some (.inl a1), some (.inl a2)], [(.inl 0)], M) rfl ?_
                              cases h
                              exact fj_ri rfl rfl
def dm_65_171  (a0 : Nat) (a1 : Int32) (a2 : Int32) (s0 : Int32) (s1 : Nat) (M : fj_M) : Option fj_M := ((dm_11 s1 s0 M).bind fun q1 => some q1)
set_option maxRecDepth 40000 in
theorem de_65_171 (X : fj_X) (a0 : Nat) (a1 : Int32) (a2 : Int32) (s0 : Int32) (s1 : Nat) (M : fj_M) (r : fj_M) (h : dm_65_171 a0 a1 a2 s0 s1 M = some r) : fj_ev X (65, 171, [some (.inr (7, a0)), some (.inl a1), some (.inl a2), none, none], [(.inl s0), (.inr (7, s1))], M) (none, r) := by
    unfold dm_65_171 at h
    cases hq1 : dm_11 s1 s0 M with
    | none => rw [hq1] at h; cases h
    | some q1 =>
      rw [hq1, Option.bind_some] at h
      refine fj_cl rfl (de_11 X s1 s0 M _ hq1) ?_
      refine fj_blk 1 (65, 199, [some (.inr (7, a0)), some (.inl a1), some (.inl a2), none, none], [], q1) rfl ?_
      cases h
      exact fj_rv rfl rfl
/-- X5_calculate -/
def dm_65 (a0 : Nat) (a1 : Int32) (a2 : Int32) (M : fj_M) : Option fj_M := (if a1 = 0 then some M else (if a1 = 1 then ((dm_11 a0 a2 M).bind fun q3 => some q3) else (if a1 = 2 then ((dm_12 a0 M).bind fun q5 => some q5.2) else (if a1 = 3 then ((dm_13 a0 0 M).bind fun q7 => ((dm_11 a0 q7.1 q7.2).bind fun q8 => some q8)) else (if a1 = 4 then ((dm_66 a0 M).bind fun q10 => some q10) else (if a1 = 5 then ((dm_13 a0 1 M).bind fun q12 => ((dm_11 a0 q12.1 q12.2).bind fun q13 => some q13)) else (if a1 = 6 then ((dm_12 a0 M).bind fun q15 => ((dm_12 a0 q15.2).bind fun q16 => ((dm_67 a1 q16.1 q15.1 q16.2).bind fun q17 => ((dm_11 a0 q17.1 q17.2).bind fun q18 => some q18)))) else (if a1 = 7 then ((dm_12 a0 M).bind fun q20 => ((dm_12 a0 q20.2).bind fun q21 => ((dm_67 a1 q21.1 q20.1 q21.2).bind fun q22 => ((dm_11 a0 q22.1 q22.2).bind fun q23 => some q23)))) else (if a1 = 8 then ((dm_12 a0 M).bind fun q25 => ((dm_12 a0 q25.2).bind fun q26 => ((dm_67 a1 q26.1 q25.1 q26.2).bind fun q27 => ((dm_11 a0 q27.1 q27.2).bind fun q28 => some q28)))) else (if a1 = 9 then ((dm_12 a0 M).bind fun q30 => ((dm_12 a0 q30.2).bind fun q31 => ((dm_67 a1 q31.1 q30.1 q31.2).bind fun q32 => ((dm_11 a0 q32.1 q32.2).bind fun q33 => some q33)))) else (if a1 = 10 then ((dm_12 a0 M).bind fun q35 => ((dm_12 a0 q35.2).bind fun q36 => ((dm_67 a1 q36.1 q35.1 q36.2).bind fun q37 => ((dm_11 a0 q37.1 q37.2).bind fun q38 => some q38)))) else (if a1 = 11 then ((dm_12 a0 M).bind fun q40 => ((dm_11 a0 (-q40.1) q40.2).bind fun q41 => some q41)) else (if a1 = 12 then ((dm_12 a0 M).bind fun q43 => ((dm_12 a0 q43.2).bind fun q44 => ((dm_67 a1 q44.1 q43.1 q44.2).bind fun q45 => ((dm_11 a0 q45.1 q45.2).bind fun q46 => some q46)))) else (if a1 = 13 then ((dm_12 a0 M).bind fun q48 => ((dm_12 a0 q48.2).bind fun q49 => ((dm_67 a1 q49.1 q48.1 q49.2).bind fun q50 => ((dm_11 a0 q50.1 q50.2).bind fun q51 => some q51)))) else (if a1 = 14 then ((dm_12 a0 M).bind fun q53 => ((dm_12 a0 q53.2).bind fun q54 => ((dm_67 a1 q54.1 q53.1 q54.2).bind fun q55 => ((dm_11 a0 q55.1 q55.2).bind fun q56 => some q56)))) else (if a1 = 15 then ((dm_12 a0 M).bind fun q58 => ((dm_12 a0 q58.2).bind fun q59 => ((dm_67 a1 q59.1 q58.1 q59.2).bind fun q60 => ((dm_11 a0 q60.1 q60.2).bind fun q61 => some q61)))) else (if a1 = 16 then ((dm_12 a0 M).bind fun q63 => ((dm_12 a0 q63.2).bind fun q64 => ((dm_67 a1 q64.1 q63.1 q64.2).bind fun q65 => ((dm_11 a0 q65.1 q65.2).bind fun q66 => some q66)))) else (if a1 = 17 then ((dm_12 a0 M).bind fun q68 => ((dm_12 a0 q68.2).bind fun q69 => ((dm_67 a1 q69.1 q68.1 q69.2).bind fun q70 => ((dm_11 a0 q70.1 q70.2).bind fun q71 => some q71)))) else (if a1 = 18 then ((dm_12 a0 M).bind fun q73 => ((dm_12 a0 q73.2).bind fun q74 => ((dm_67 a1 q74.1 q73.1 q74.2).bind fun q75 => ((dm_11 a0 q75.1 q75.2).bind fun q76 => some q76)))) else (if a1 = 19 then ((dm_12 a0 M).bind fun q78 => (if q78.1 = 0 then dm_65_171 a0 a1 a2 1 a0 q78.2 else dm_65_171 a0 a1 a2 0 a0 q78.2)) else ((dm_12 a0 M).bind fun q80 => ((dm_12 a0 q80.2).bind fun q81 => ((dm_67 a1 q81.1 q80.1 q81.2).bind fun q82 => ((dm_11 a0 q82.1 q82.2).bind fun q83 => some q83))))))))))))))))))))))))
set_option maxRecDepth 40000 in
theorem de_65 (X : fj_X) (a0 : Nat) (a1 : Int32) (a2 : Int32) (M : fj_M) (r : fj_M) (h : dm_65 a0 a1 a2 M = some r) : fj_ev X (65, 0, [some (.inr (7, a0)), some (.inl a1), some (.inl a2), none, none], [], M) (none, r) := by
    unfold dm_65 at h
    refine fj_blk 1 (65, 1, [some (.inr (7, a0)), some (.inl a1), some (.inl a2), none, none], [(.inl a1)], M) rfl ?_
    by_cases hc1 : a1 = 0
    · rw [if_pos hc1] at h
      refine fj_swg (t := 96) rfl (by rw [hc1]; rfl) ?_
      refine fj_blk 1 (65, 199, [some (.inr (7, a0)), some (.inl a1), some (.inl a2), none, none], [], M) rfl ?_
      cases h
      exact fj_rv rfl rfl
    · rw [if_neg hc1] at h
      by_cases hc2 : a1 = 1
      · rw [if_pos hc2] at h
        refine fj_swg (t := 99) rfl (by rw [hc2]; rfl) ?_
        refine fj_blk 2 (65, 101, [some (.inr (7, a0)), some (.inl a1), some (.inl a2), none, none], [(.inl a2), (.inr (7, a0))], M) rfl ?_
        cases hq3 : dm_11 a0 a2 M with
        | none => rw [hq3] at h; cases h
        | some q3 =>
          rw [hq3, Option.bind_some] at h
          refine fj_cl rfl (de_11 X a0 a2 M _ hq3) ?_
          refine fj_blk 1 (65, 199, [some (.inr (7, a0)), some (.inl a1), some (.inl a2), none, none], [], q3) rfl ?_
          cases h
          exact fj_rv rfl rfl
      · rw [if_neg hc2] at h
        by_cases hc4 : a1 = 2
        · rw [if_pos hc4] at h
          refine fj_swg (t := 107) rfl (by rw [hc4]; rfl) ?_
          refine fj_blk 1 (65, 108, [some (.inr (7, a0)), some (.inl a1), some (.inl a2), none, none], [(.inr (7, a0))], M) rfl ?_
          cases hq5 : dm_12 a0 M with
          | none => rw [hq5] at h; cases h
          | some q5 =>
            rw [hq5, Option.bind_some] at h
            refine fj_cl rfl (de_12 X a0 M _ hq5) ?_
            refine fj_blk 2 (65, 199, [some (.inr (7, a0)), some (.inl a1), some (.inl a2), none, none], [], q5.2) rfl ?_
            cases h
            exact fj_rv rfl rfl
        · rw [if_neg hc4] at h
          by_cases hc6 : a1 = 3
          · rw [if_pos hc6] at h
            refine fj_swg (t := 115) rfl (by rw [hc6]; rfl) ?_
            refine fj_blk 3 (65, 118, [some (.inr (7, a0)), some (.inl a1), some (.inl a2), none, none], [(.inl 0), (.inr (7, a0)), (.inr (7, a0))], M) rfl ?_
            cases hq7 : dm_13 a0 0 M with
            | none => rw [hq7] at h; cases h
            | some q7 =>
              rw [hq7, Option.bind_some] at h
              refine fj_cl rfl (de_13 X a0 0 M _ hq7) ?_
              cases hq8 : dm_11 a0 q7.1 q7.2 with
              | none => rw [hq8] at h; cases h
              | some q8 =>
                rw [hq8, Option.bind_some] at h
                refine fj_cl rfl (de_11 X a0 q7.1 q7.2 _ hq8) ?_
                refine fj_blk 1 (65, 199, [some (.inr (7, a0)), some (.inl a1), some (.inl a2), none, none], [], q8) rfl ?_
                cases h
                exact fj_rv rfl rfl
          · rw [if_neg hc6] at h
            by_cases hc9 : a1 = 4
            · rw [if_pos hc9] at h
              refine fj_swg (t := 139) rfl (by rw [hc9]; rfl) ?_
              refine fj_blk 1 (65, 140, [some (.inr (7, a0)), some (.inl a1), some (.inl a2), none, none], [(.inr (7, a0))], M) rfl ?_
              cases hq10 : dm_66 a0 M with
              | none => rw [hq10] at h; cases h
              | some q10 =>
                rw [hq10, Option.bind_some] at h
                refine fj_cl rfl (de_66 X a0 M _ hq10) ?_
                refine fj_blk 1 (65, 199, [some (.inr (7, a0)), some (.inl a1), some (.inl a2), none, none], [], q10) rfl ?_
                cases h
                exact fj_rv rfl rfl
            · rw [if_neg hc9] at h
              by_cases hc11 : a1 = 5
              · rw [if_pos hc11] at h
                refine fj_swg (t := 127) rfl (by rw [hc11]; rfl) ?_
                refine fj_blk 3 (65, 130, [some (.inr (7, a0)), some (.inl a1), some (.inl a2), none, none], [(.inl 1), (.inr (7, a0)), (.inr (7, a0))], M) rfl ?_
                cases hq12 : dm_13 a0 1 M with
                | none => rw [hq12] at h; cases h
                | some q12 =>
                  rw [hq12, Option.bind_some] at h
                  refine fj_cl rfl (de_13 X a0 1 M _ hq12) ?_
                  cases hq13 : dm_11 a0 q12.1 q12.2 with
                  | none => rw [hq13] at h; cases h
                  | some q13 =>
                    rw [hq13, Option.bind_some] at h
                    refine fj_cl rfl (de_11 X a0 q12.1 q12.2 _ hq13) ?_
                    refine fj_blk 1 (65, 199, [some (.inr (7, a0)), some (.inl a1), some (.inl a2), none, none], [], q13) rfl ?_
                    cases h
                    exact fj_rv rfl rfl
              · rw [if_neg hc11] at h
                by_cases hc14 : a1 = 6
                · rw [if_pos hc14] at h
                  refine fj_swg (t := 177) rfl (by rw [hc14]; rfl) ?_
                  refine fj_blk 1 (65, 178, [some (.inr (7, a0)), some (.inl a1), some (.inl a2), none, none], [(.inr (7, a0))], M) rfl ?_
                  cases hq15 : dm_12 a0 M with
                  | none => rw [hq15] at h; cases h
                  | some q15 =>
                    rw [hq15, Option.bind_some] at h
                    refine fj_cl rfl (de_12 X a0 M _ hq15) ?_
                    refine fj_blk 2 (65, 183, [some (.inr (7, a0)), some (.inl a1), some (.inl a2), some (.inl q15.1), none], [(.inr (7, a0))], q15.2) rfl ?_
                    cases hq16 : dm_12 a0 q15.2 with
                    | none => rw [hq16] at h; cases h
                    | some q16 =>
                      rw [hq16, Option.bind_some] at h
                      refine fj_cl rfl (de_12 X a0 q15.2 _ hq16) ?_
                      refine fj_blk 5 (65, 193, [some (.inr (7, a0)), some (.inl a1), some (.inl a2), some (.inl q15.1), some (.inl q16.1)], [(.inl q15.1), (.inl q16.1), (.inl a1), (.inr (7, a0))], q16.2) rfl ?_
                      cases hq17 : dm_67 a1 q16.1 q15.1 q16.2 with
                      | none => rw [hq17] at h; cases h
                      | some q17 =>
                        rw [hq17, Option.bind_some] at h
                        refine fj_cl rfl (de_67 X a1 q16.1 q15.1 q16.2 _ hq17) ?_
                        cases hq18 : dm_11 a0 q17.1 q17.2 with
                        | none => rw [hq18] at h; cases h
                        | some q18 =>
                          rw [hq18, Option.bind_some] at h
                          refine fj_cl rfl (de_11 X a0 q17.1 q17.2 _ hq18) ?_
                          cases h
                          exact fj_rv rfl rfl
                · rw [if_neg hc14] at h
                  by_cases hc19 : a1 = 7
                  · rw [if_pos hc19] at h
                    refine fj_swg (t := 177) rfl (by rw [hc19]; rfl) ?_
                    refine fj_blk 1 (65, 178, [some (.inr (7, a0)), some (.inl a1), some (.inl a2), none, none], [(.inr (7, a0))], M) rfl ?_
                    cases hq20 : dm_12 a0 M with
                    | none => rw [hq20] at h; cases h
                    | some q20 =>
                      rw [hq20, Option.bind_some] at h
                      refine fj_cl rfl (de_12 X a0 M _ hq20) ?_
                      refine fj_blk 2 (65, 183, [some (.inr (7, a0)), some (.inl a1), some (.inl a2), some (.inl q20.1), none], [(.inr (7, a0))], q20.2) rfl ?_
                      cases hq21 : dm_12 a0 q20.2 with
                      | none => rw [hq21] at h; cases h
                      | some q21 =>
                        rw [hq21, Option.bind_some] at h
                        refine fj_cl rfl (de_12 X a0 q20.2 _ hq21) ?_
                        refine fj_blk 5 (65, 193, [some (.inr (7, a0)), some (.inl a1), some (.inl a2), some (.inl q20.1), some (.inl q21.1)], [(.inl q20.1), (.inl q21.1), (.inl a1), (.inr (7, a0))], q21.2) rfl ?_
                        cases hq22 : dm_67 a1 q21.1 q20.1 q21.2 with
                        | none => rw [hq22] at h; cases h
                        | some q22 =>
                          rw [hq22, Option.bind_some] at h
                          refine fj_cl rfl (de_67 X a1 q21.1 q20.1 q21.2 _ hq22) ?_
                          cases hq23 : dm_11 a0 q22.1 q22.2 with
                          | none => rw [hq23] at h; cases h
                          | some q23 =>
                            rw [hq23, Option.bind_some] at h
                            refine fj_cl rfl (de_11 X a0 q22.1 q22.2 _ hq23) ?_
                            cases h
                            exact fj_rv rfl rfl
                  · rw [if_neg hc19] at h
                    by_cases hc24 : a1 = 8
                    · rw [if_pos hc24] at h
                      refine fj_swg (t := 177) rfl (by rw [hc24]; rfl) ?_
                      refine fj_blk 1 (65, 178, [some (.inr (7, a0)), some (.inl a1), some (.inl a2), none, none], [(.inr (7, a0))], M) rfl ?_
                      cases hq25 : dm_12 a0 M with
                      | none => rw [hq25] at h; cases h
                      | some q25 =>
                        rw [hq25, Option.bind_some] at h
                        refine fj_cl rfl (de_12 X a0 M _ hq25) ?_
                        refine fj_blk 2 (65, 183, [some (.inr (7, a0)), some (.inl a1), some (.inl a2), some (.inl q25.1), none], [(.inr (7, a0))], q25.2) rfl ?_
                        cases hq26 : dm_12 a0 q25.2 with
                        | none => rw [hq26] at h; cases h
                        | some q26 =>
                          rw [hq26, Option.bind_some] at h
                          refine fj_cl rfl (de_12 X a0 q25.2 _ hq26) ?_
                          refine fj_blk 5 (65, 193, [some (.inr (7, a0)), some (.inl a1), some (.inl a2), some (.inl q25.1), some (.inl q26.1)], [(.inl q25.1), (.inl q26.1), (.inl a1), (.inr (7, a0))], q26.2) rfl ?_
                          cases hq27 : dm_67 a1 q26.1 q25.1 q26.2 with
                          | none => rw [hq27] at h; cases h
                          | some q27 =>
                            rw [hq27, Option.bind_some] at h
                            refine fj_cl rfl (de_67 X a1 q26.1 q25.1 q26.2 _ hq27) ?_
                            cases hq28 : dm_11 a0 q27.1 q27.2 with
                            | none => rw [hq28] at h; cases h
                            | some q28 =>
                              rw [hq28, Option.bind_some] at h
                              refine fj_cl rfl (de_11 X a0 q27.1 q27.2 _ hq28) ?_
                              cases h
                              exact fj_rv rfl rfl
                    · rw [if_neg hc24] at h
                      by_cases hc29 : a1 = 9
                      · rw [if_pos hc29] at h
                        refine fj_swg (t := 177) rfl (by rw [hc29]; rfl) ?_
                        refine fj_blk 1 (65, 178, [some (.inr (7, a0)), some (.inl a1), some (.inl a2), none, none], [(.inr (7, a0))], M) rfl ?_
                        cases hq30 : dm_12 a0 M with
                        | none => rw [hq30] at h; cases h
                        | some q30 =>
                          rw [hq30, Option.bind_some] at h
                          refine fj_cl rfl (de_12 X a0 M _ hq30) ?_
                          refine fj_blk 2 (65, 183, [some (.inr (7, a0)), some (.inl a1), some (.inl a2), some (.inl q30.1), none], [(.inr (7, a0))], q30.2) rfl ?_
                          cases hq31 : dm_12 a0 q30.2 with
                          | none => rw [hq31] at h; cases h
                          | some q31 =>
                            rw [hq31, Option.bind_some] at h
                            refine fj_cl rfl (de_12 X a0 q30.2 _ hq31) ?_
                            refine fj_blk 5 (65, 193, [some (.inr (7, a0)), some (.inl a1), some (.inl a2), some (.inl q30.1), some (.inl q31.1)], [(.inl q30.1), (.inl q31.1), (.inl a1), (.inr (7, a0))], q31.2) rfl ?_
                            cases hq32 : dm_67 a1 q31.1 q30.1 q31.2 with
                            | none => rw [hq32] at h; cases h
                            | some q32 =>
                              rw [hq32, Option.bind_some] at h
                              refine fj_cl rfl (de_67 X a1 q31.1 q30.1 q31.2 _ hq32) ?_
                              cases hq33 : dm_11 a0 q32.1 q32.2 with
                              | none => rw [hq33] at h; cases h
                              | some q33 =>
                                rw [hq33, Option.bind_some] at h
                                refine fj_cl rfl (de_11 X a0 q32.1 q32.2 _ hq33) ?_
                                cases h
                                exact fj_rv rfl rfl
                      · rw [if_neg hc29] at h
                        by_cases hc34 : a1 = 10
                        · rw [if_pos hc34] at h
                          refine fj_swg (t := 177) rfl (by rw [hc34]; rfl) ?_
                          refine fj_blk 1 (65, 178, [some (.inr (7, a0)), some (.inl a1), some (.inl a2), none, none], [(.inr (7, a0))], M) rfl ?_
                          cases hq35 : dm_12 a0 M with
                          | none => rw [hq35] at h; cases h
                          | some q35 =>
                            rw [hq35, Option.bind_some] at h
                            refine fj_cl rfl (de_12 X a0 M _ hq35) ?_
                            refine fj_blk 2 (65, 183, [some (.inr (7, a0)), some (.inl a1), some (.inl a2), some (.inl q35.1), none], [(.inr (7, a0))], q35.2) rfl ?_
                            cases hq36 : dm_12 a0 q35.2 with
                            | none => rw [hq36] at h; cases h
                            | some q36 =>
                              rw [hq36, Option.bind_some] at h
                              refine fj_cl rfl (de_12 X a0 q35.2 _ hq36) ?_
                              refine fj_blk 5 (65, 193, [some (.inr (7, a0)), some (.inl a1), some (.inl a2), some (.inl q35.1), some (.inl q36.1)], [(.inl q35.1), (.inl q36.1), (.inl a1), (.inr (7, a0))], q36.2) rfl ?_
                              cases hq37 : dm_67 a1 q36.1 q35.1 q36.2 with
                              | none => rw [hq37] at h; cases h
                              | some q37 =>
                                rw [hq37, Option.bind_some] at h
                                refine fj_cl rfl (de_67 X a1 q36.1 q35.1 q36.2 _ hq37) ?_
                                cases hq38 : dm_11 a0 q37.1 q37.2 with
                                | none => rw [hq38] at h; cases h
                                | some q38 =>
                                  rw [hq38, Option.bind_some] at h
                                  refine fj_cl rfl (de_11 X a0 q37.1 q37.2 _ hq38) ?_
                                  cases h
                                  exact fj_rv rfl rfl
                        · rw [if_neg hc34] at h
                          by_cases hc39 : a1 = 11
                          · rw [if_pos hc39] at h
                            refine fj_swg (t := 146) rfl (by rw [hc39]; rfl) ?_
                            refine fj_blk 2 (65, 148, [some (.inr (7, a0)), some (.inl a1), some (.inl a2), none, none], [(.inr (7, a0)), (.inr (7, a0))], M) rfl ?_
                            cases hq40 : dm_12 a0 M with
                            | none => rw [hq40] at h; cases h
                            | some q40 =>
                              rw [hq40, Option.bind_some] at h
                              refine fj_cl rfl (de_12 X a0 M _ hq40) ?_
                              refine fj_blk 1 (65, 152, [some (.inr (7, a0)), some (.inl a1), some (.inl a2), none, none], [(.inl (-q40.1)), (.inr (7, a0))], q40.2) rfl ?_
                              cases hq41 : dm_11 a0 (-q40.1) q40.2 with
                              | none => rw [hq41] at h; cases h
                              | some q41 =>
                                rw [hq41, Option.bind_some] at h
                                refine fj_cl rfl (de_11 X a0 (-q40.1) q40.2 _ hq41) ?_
                                refine fj_blk 1 (65, 199, [some (.inr (7, a0)), some (.inl a1), some (.inl a2), none, none], [], q41) rfl ?_
                                cases h
                                exact fj_rv rfl rfl
                          · rw [if_neg hc39] at h
                            by_cases hc42 : a1 = 12
                            · rw [if_pos hc42] at h
                              refine fj_swg (t := 177) rfl (by rw [hc42]; rfl) ?_
                              refine fj_blk 1 (65, 178, [some (.inr (7, a0)), some (.inl a1), some (.inl a2), none, none], [(.inr (7, a0))], M) rfl ?_
                              cases hq43 : dm_12 a0 M with
                              | none => rw [hq43] at h; cases h
                              | some q43 =>
                                rw [hq43, Option.bind_some] at h
                                refine fj_cl rfl (de_12 X a0 M _ hq43) ?_
                                refine fj_blk 2 (65, 183, [some (.inr (7, a0)), some (.inl a1), some (.inl a2), some (.inl q43.1), none], [(.inr (7, a0))], q43.2) rfl ?_
                                cases hq44 : dm_12 a0 q43.2 with
                                | none => rw [hq44] at h; cases h
                                | some q44 =>
                                  rw [hq44, Option.bind_some] at h
                                  refine fj_cl rfl (de_12 X a0 q43.2 _ hq44) ?_
                                  refine fj_blk 5 (65, 193, [some (.inr (7, a0)), some (.inl a1), some (.inl a2), some (.inl q43.1), some (.inl q44.1)], [(.inl q43.1), (.inl q44.1), (.inl a1), (.inr (7, a0))], q44.2) rfl ?_
                                  cases hq45 : dm_67 a1 q44.1 q43.1 q44.2 with
                                  | none => rw [hq45] at h; cases h
                                  | some q45 =>
                                    rw [hq45, Option.bind_some] at h
                                    refine fj_cl rfl (de_67 X a1 q44.1 q43.1 q44.2 _ hq45) ?_
                                    cases hq46 : dm_11 a0 q45.1 q45.2 with
                                    | none => rw [hq46] at h; cases h
                                    | some q46 =>
                                      rw [hq46, Option.bind_some] at h
                                      refine fj_cl rfl (de_11 X a0 q45.1 q45.2 _ hq46) ?_
                                      cases h
                                      exact fj_rv rfl rfl
                            · rw [if_neg hc42] at h
                              by_cases hc47 : a1 = 13
                              · rw [if_pos hc47] at h
                                refine fj_swg (t := 177) rfl (by rw [hc47]; rfl) ?_
                                refine fj_blk 1 (65, 178, [some (.inr (7, a0)), some (.inl a1), some (.inl a2), none, none], [(.inr (7, a0))], M) rfl ?_
                                cases hq48 : dm_12 a0 M with
                                | none => rw [hq48] at h; cases h
                                | some q48 =>
                                  rw [hq48, Option.bind_some] at h
                                  refine fj_cl rfl (de_12 X a0 M _ hq48) ?_
                                  refine fj_blk 2 (65, 183, [some (.inr (7, a0)), some (.inl a1), some (.inl a2), some (.inl q48.1), none], [(.inr (7, a0))], q48.2) rfl ?_
                                  cases hq49 : dm_12 a0 q48.2 with
                                  | none => rw [hq49] at h; cases h
                                  | some q49 =>
                                    rw [hq49, Option.bind_some] at h
                                    refine fj_cl rfl (de_12 X a0 q48.2 _ hq49) ?_
                                    refine fj_blk 5 (65, 193, [some (.inr (7, a0)), some (.inl a1), some (.inl a2), some (.inl q48.1), some (.inl q49.1)], [(.inl q48.1), (.inl q49.1), (.inl a1), (.inr (7, a0))], q49.2) rfl ?_
                                    cases hq50 : dm_67 a1 q49.1 q48.1 q49.2 with
                                    | none => rw [hq50] at h; cases h
                                    | some q50 =>
                                      rw [hq50, Option.bind_some] at h
                                      refine fj_cl rfl (de_67 X a1 q49.1 q48.1 q49.2 _ hq50) ?_
                                      cases hq51 : dm_11 a0 q50.1 q50.2 with
                                      | none => rw [hq51] at h; cases h
                                      | some q51 =>
                                        rw [hq51, Option.bind_some] at h
                                        refine fj_cl rfl (de_11 X a0 q50.1 q50.2 _ hq51) ?_
                                        cases h
                                        exact fj_rv rfl rfl
                              · rw [if_neg hc47] at h
                                by_cases hc52 : a1 = 14
                                · rw [if_pos hc52] at h
                                  refine fj_swg (t := 177) rfl (by rw [hc52]; rfl) ?_
                                  refine fj_blk 1 (65, 178, [some (.inr (7, a0)), some (.inl a1), some (.inl a2), none, none], [(.inr (7, a0))], M) rfl ?_
                                  cases hq53 : dm_12 a0 M with
                                  | none => rw [hq53] at h; cases h
                                  | some q53 =>
                                    rw [hq53, Option.bind_some] at h
                                    refine fj_cl rfl (de_12 X a0 M _ hq53) ?_
                                    refine fj_blk 2 (65, 183, [some (.inr (7, a0)), some (.inl a1), some (.inl a2), some (.inl q53.1), none], [(.inr (7, a0))], q53.2) rfl ?_
                                    cases hq54 : dm_12 a0 q53.2 with
                                    | none => rw [hq54] at h; cases h
                                    | some q54 =>
                                      rw [hq54, Option.bind_some] at h
                                      refine fj_cl rfl (de_12 X a0 q53.2 _ hq54) ?_
                                      refine fj_blk 5 (65, 193, [some (.inr (7, a0)), some (.inl a1), some (.inl a2), some (.inl q53.1), some (.inl q54.1)], [(.inl q53.1), (.inl q54.1), (.inl a1), (.inr (7, a0))], q54.2) rfl ?_
                                      cases hq55 : dm_67 a1 q54.1 q53.1 q54.2 with
                                      | none => rw [hq55] at h; cases h
                                      | some q55 =>
                                        rw [hq55, Option.bind_some] at h
                                        refine fj_cl rfl (de_67 X a1 q54.1 q53.1 q54.2 _ hq55) ?_
                                        cases hq56 : dm_11 a0 q55.1 q55.2 with
                                        | none => rw [hq56] at h; cases h
                                        | some q56 =>
                                          rw [hq56, Option.bind_some] at h
                                          refine fj_cl rfl (de_11 X a0 q55.1 q55.2 _ hq56) ?_
                                          cases h
                                          exact fj_rv rfl rfl
                                · rw [if_neg hc52] at h
                                  by_cases hc57 : a1 = 15
                                  · rw [if_pos hc57] at h
                                    refine fj_swg (t := 177) rfl (by rw [hc57]; rfl) ?_
                                    refine fj_blk 1 (65, 178, [some (.inr (7, a0)), some (.inl a1), some (.inl a2), none, none], [(.inr (7, a0))], M) rfl ?_
                                    cases hq58 : dm_12 a0 M with
                                    | none => rw [hq58] at h; cases h
                                    | some q58 =>
                                      rw [hq58, Option.bind_some] at h
                                      refine fj_cl rfl (de_12 X a0 M _ hq58) ?_
                                      refine fj_blk 2 (65, 183, [some (.inr (7, a0)), some (.inl a1), some (.inl a2), some (.inl q58.1), none], [(.inr (7, a0))], q58.2) rfl ?_
                                      cases hq59 : dm_12 a0 q58.2 with
                                      | none => rw [hq59] at h; cases h
                                      | some q59 =>
                                        rw [hq59, Option.bind_some] at h
                                        refine fj_cl rfl (de_12 X a0 q58.2 _ hq59) ?_
                                        refine fj_blk 5 (65, 193, [some (.inr (7, a0)), some (.inl a1), some (.inl a2), some (.inl q58.1), some (.inl q59.1)], [(.inl q58.1), (.inl q59.1), (.inl a1), (.inr (7, a0))], q59.2) rfl ?_
                                        cases hq60 : dm_67 a1 q59.1 q58.1 q59.2 with
                                        | none => rw [hq60] at h; cases h
                                        | some q60 =>
                                          rw [hq60, Option.bind_some] at h
                                          refine fj_cl rfl (de_67 X a1 q59.1 q58.1 q59.2 _ hq60) ?_
                                          cases hq61 : dm_11 a0 q60.1 q60.2 with
                                          | none => rw [hq61] at h; cases h
                                          | some q61 =>
                                            rw [hq61, Option.bind_some] at h
                                            refine fj_cl rfl (de_11 X a0 q60.1 q60.2 _ hq61) ?_
                                            cases h
                                            exact fj_rv rfl rfl
                                  · rw [if_neg hc57] at h
                                    by_cases hc62 : a1 = 16
                                    · rw [if_pos hc62] at h
                                      refine fj_swg (t := 177) rfl (by rw [hc62]; rfl) ?_
                                      refine fj_blk 1 (65, 178, [some (.inr (7, a0)), some (.inl a1), some (.inl a2), none, none], [(.inr (7, a0))], M) rfl ?_
                                      cases hq63 : dm_12 a0 M with
                                      | none => rw [hq63] at h; cases h
                                      | some q63 =>
                                        rw [hq63, Option.bind_some] at h
                                        refine fj_cl rfl (de_12 X a0 M _ hq63) ?_
                                        refine fj_blk 2 (65, 183, [some (.inr (7, a0)), some (.inl a1), some (.inl a2), some (.inl q63.1), none], [(.inr (7, a0))], q63.2) rfl ?_
                                        cases hq64 : dm_12 a0 q63.2 with
                                        | none => rw [hq64] at h; cases h
                                        | some q64 =>
                                          rw [hq64, Option.bind_some] at h
                                          refine fj_cl rfl (de_12 X a0 q63.2 _ hq64) ?_
                                          refine fj_blk 5 (65, 193, [some (.inr (7, a0)), some (.inl a1), some (.inl a2), some (.inl q63.1), some (.inl q64.1)], [(.inl q63.1), (.inl q64.1), (.inl a1), (.inr (7, a0))], q64.2) rfl ?_
                                          cases hq65 : dm_67 a1 q64.1 q63.1 q64.2 with
                                          | none => rw [hq65] at h; cases h
                                          | some q65 =>
                                            rw [hq65, Option.bind_some] at h
                                            refine fj_cl rfl (de_67 X a1 q64.1 q63.1 q64.2 _ hq65) ?_
                                            cases hq66 : dm_11 a0 q65.1 q65.2 with
                                            | none => rw [hq66] at h; cases h
                                            | some q66 =>
                                              rw [hq66, Option.bind_some] at h
                                              refine fj_cl rfl (de_11 X a0 q65.1 q65.2 _ hq66) ?_
                                              cases h
                                              exact fj_rv rfl rfl
                                    · rw [if_neg hc62] at h
                                      by_cases hc67 : a1 = 17
                                      · rw [if_pos hc67] at h
                                        refine fj_swg (t := 177) rfl (by rw [hc67]; rfl) ?_
                                        refine fj_blk 1 (65, 178, [some (.inr (7, a0)), some (.inl a1), some (.inl a2), none, none], [(.inr (7, a0))], M) rfl ?_
                                        cases hq68 : dm_12 a0 M with
                                        | none => rw [hq68] at h; cases h
                                        | some q68 =>
                                          rw [hq68, Option.bind_some] at h
                                          refine fj_cl rfl (de_12 X a0 M _ hq68) ?_
                                          refine fj_blk 2 (65, 183, [some (.inr (7, a0)), some (.inl a1), some (.inl a2), some (.inl q68.1), none], [(.inr (7, a0))], q68.2) rfl ?_
                                          cases hq69 : dm_12 a0 q68.2 with
                                          | none => rw [hq69] at h; cases h
                                          | some q69 =>
                                            rw [hq69, Option.bind_some] at h
                                            refine fj_cl rfl (de_12 X a0 q68.2 _ hq69) ?_
                                            refine fj_blk 5 (65, 193, [some (.inr (7, a0)), some (.inl a1), some (.inl a2), some (.inl q68.1), some (.inl q69.1)], [(.inl q68.1), (.inl q69.1), (.inl a1), (.inr (7, a0))], q69.2) rfl ?_
                                            cases hq70 : dm_67 a1 q69.1 q68.1 q69.2 with
                                            | none => rw [hq70] at h; cases h
                                            | some q70 =>
                                              rw [hq70, Option.bind_some] at h
                                              refine fj_cl rfl (de_67 X a1 q69.1 q68.1 q69.2 _ hq70) ?_
                                              cases hq71 : dm_11 a0 q70.1 q70.2 with
                                              | none => rw [hq71] at h; cases h
                                              | some q71 =>
                                                rw [hq71, Option.bind_some] at h
                                                refine fj_cl rfl (de_11 X a0 q70.1 q70.2 _ hq71) ?_
                                                cases h
                                                exact fj_rv rfl rfl
                                      · rw [if_neg hc67] at h
                                        by_cases hc72 : a1 = 18
                                        · rw [if_pos hc72] at h
                                          refine fj_swg (t := 177) rfl (by rw [hc72]; rfl) ?_
                                          refine fj_blk 1 (65, 178, [some (.inr (7, a0)), some (.inl a1), some (.inl a2), none, none], [(.inr (7, a0))], M) rfl ?_
                                          cases hq73 : dm_12 a0 M with
                                          | none => rw [hq73] at h; cases h
                                          | some q73 =>
                                            rw [hq73, Option.bind_some] at h
                                            refine fj_cl rfl (de_12 X a0 M _ hq73) ?_
                                            refine fj_blk 2 (65, 183, [some (.inr (7, a0)), some (.inl a1), some (.inl a2), some (.inl q73.1), none], [(.inr (7, a0))], q73.2) rfl ?_
                                            cases hq74 : dm_12 a0 q73.2 with
                                            | none => rw [hq74] at h; cases h
                                            | some q74 =>
                                              rw [hq74, Option.bind_some] at h
                                              refine fj_cl rfl (de_12 X a0 q73.2 _ hq74) ?_
                                              refine fj_blk 5 (65, 193, [some (.inr (7, a0)), some (.inl a1), some (.inl a2), some (.inl q73.1), some (.inl q74.1)], [(.inl q73.1), (.inl q74.1), (.inl a1), (.inr (7, a0))], q74.2) rfl ?_
                                              cases hq75 : dm_67 a1 q74.1 q73.1 q74.2 with
                                              | none => rw [hq75] at h; cases h
                                              | some q75 =>
                                                rw [hq75, Option.bind_some] at h
                                                refine fj_cl rfl (de_67 X a1 q74.1 q73.1 q74.2 _ hq75) ?_
                                                cases hq76 : dm_11 a0 q75.1 q75.2 with
                                                | none => rw [hq76] at h; cases h
                                                | some q76 =>
                                                  rw [hq76, Option.bind_some] at h
                                                  refine fj_cl rfl (de_11 X a0 q75.1 q75.2 _ hq76) ?_
                                                  cases h
                                                  exact fj_rv rfl rfl
                                        · rw [if_neg hc72] at h
                                          by_cases hc77 : a1 = 19
                                          · rw [if_pos hc77] at h
                                            refine fj_swg (t := 158) rfl (by rw [hc77]; rfl) ?_
                                            refine fj_blk 2 (65, 160, [some (.inr (7, a0)), some (.inl a1), some (.inl a2), none, none], [(.inr (7, a0)), (.inr (7, a0))], M) rfl ?_
                                            cases hq78 : dm_12 a0 M with
                                            | none => rw [hq78] at h; cases h
                                            | some q78 =>
                                              rw [hq78, Option.bind_some] at h
                                              refine fj_cl rfl (de_12 X a0 M _ hq78) ?_
                                              by_cases hc79 : q78.1 = 0
                                              · rw [if_pos hc79] at h
                                                refine fj_bf rfl (fj_nf hc79) ?_
                                                refine fj_blk 2 (65, 171, [some (.inr (7, a0)), some (.inl a1), some (.inl a2), none, none], [(.inl 1), (.inr (7, a0))], q78.2) rfl ?_
                                                exact de_65_171 X a0 a1 a2 1 a0 q78.2 r h
                                              · rw [if_neg hc79] at h
                                                refine fj_bt rfl (fj_nt hc79) ?_
                                                refine fj_blk 1 (65, 171, [some (.inr (7, a0)), some (.inl a1), some (.inl a2), none, none], [(.inl 0), (.inr (7, a0))], q78.2) rfl ?_
                                                exact de_65_171 X a0 a1 a2 0 a0 q78.2 r h
                                          · rw [if_neg hc77] at h
                                            refine fj_swg (t := 177) rfl (by simp only [fj_sw, hc1, hc2, hc4, hc6, hc9, hc11, hc14, hc19, hc24, hc29, hc34, hc39, hc42, hc47, hc52, hc57, hc62, hc67, hc72, hc77, if_false]) ?_
                                            refine fj_blk 1 (65, 178, [some (.inr (7, a0)), some (.inl a1), some (.inl a2), none, none], [(.inr (7, a0))], M) rfl ?_
                                            cases hq80 : dm_12 a0 M with
                                            | none => rw [hq80] at h; cases h
                                            | some q80 =>
                                              rw [hq80, Option.bind_some] at h
                                              refine fj_cl rfl (de_12 X a0 M _ hq80) ?_
                                              refine fj_blk 2 (65, 183, [some (.inr (7, a0)), some (.inl a1), some (.inl a2), some (.inl q80.1), none], [(.inr (7, a0))], q80.2) rfl ?_
                                              cases hq81 : dm_12 a0 q80.2 with
                                              | none => rw [hq81] at h; cases h
                                              | some q81 =>
                                                rw [hq81, Option.bind_some] at h
                                                refine fj_cl rfl (de_12 X a0 q80.2 _ hq81) ?_
                                                refine fj_blk 5 (65, 193, [some (.inr (7, a0)), some (.inl a1), some (.inl a2), some (.inl q80.1), some (.inl q81.1)], [(.inl q80.1), (.inl q81.1), (.inl a1), (.inr (7, a0))], q81.2) rfl ?_
                                                cases hq82 : dm_67 a1 q81.1 q80.1 q81.2 with
                                                | none => rw [hq82] at h; cases h
                                                | some q82 =>
                                                  rw [hq82, Option.bind_some] at h
                                                  refine fj_cl rfl (de_67 X a1 q81.1 q80.1 q81.2 _ hq82) ?_
                                                  cases hq83 : dm_11 a0 q82.1 q82.2 with
                                                  | none => rw [hq83] at h; cases h
                                                  | some q83 =>
                                                    rw [hq83, Option.bind_some] at h
                                                    refine fj_cl rfl (de_11 X a0 q82.1 q82.2 _ hq83) ?_
                                                    cases h
                                                    exact fj_rv rfl rfl
/-- X5_go -/
def dm_68 (a0 : Nat) (a1 : Int32) (a2 : Int32) (M : fj_M) : Option fj_M := (if a1 = 20 then some ((fj_u1 M.1 7 a0 3 a2), M.2) else (if a1 = 21 then ((dm_12 a0 M).bind fun q3 => (if q3.1 = 0 then some ((fj_u1 q3.2.1 7 a0 3 a2), q3.2.2) else some ((fj_u1 q3.2.1 7 a0 3 (q3.2.1 7 a0 3)), q3.2.2))) else (if a1 = 22 then ((dm_14 a0 (M.1 7 a0 3) M).bind fun q6 => some ((fj_u1 q6.1 7 a0 3 a2), q6.2)) else (if a1 = 23 then ((dm_15 a0 M).bind fun q8 => some ((fj_u1 q8.2.1 7 a0 3 q8.1), q8.2.2)) else some M))))
set_option maxRecDepth 40000 in
theorem de_68 (X : fj_X) (a0 : Nat) (a1 : Int32) (a2 : Int32) (M : fj_M) (r : fj_M) (h : dm_68 a0 a1 a2 M = some r) : fj_ev X (68, 0, [some (.inr (7, a0)), some (.inl a1), some (.inl a2)], [], M) (none, r) := by
    unfold dm_68 at h
    refine fj_blk 1 (68, 1, [some (.inr (7, a0)), some (.inl a1), some (.inl a2)], [(.inl a1)], M) rfl ?_
    by_cases hc1 : a1 = 20
    · rw [if_pos hc1] at h
      refine fj_swg (t := 32) rfl (by rw [hc1]; rfl) ?_
      refine fj_blk 4 (68, 89, [some (.inr (7, a0)), some (.inl a1), some (.inl a2)], [], ((fj_u1 M.1 7 a0 3 a2), M.2)) rfl ?_
      cases h
      exact fj_rv rfl rfl
    · rw [if_neg hc1] at h
      by_cases hc2 : a1 = 21
      · rw [if_pos hc2] at h
        refine fj_swg (t := 40) rfl (by rw [hc2]; rfl) ?_
        refine fj_blk 2 (68, 42, [some (.inr (7, a0)), some (.inl a1), some (.inl a2)], [(.inr (7, a0)), (.inr (7, a0))], M) rfl ?_
        cases hq3 : dm_12 a0 M with
        | none => rw [hq3] at h; cases h
        | some q3 =>
          rw [hq3, Option.bind_some] at h
          refine fj_cl rfl (de_12 X a0 M _ hq3) ?_
          by_cases hc4 : q3.1 = 0
          · rw [if_pos hc4] at h
            refine fj_bf rfl (fj_nf hc4) ?_
            refine fj_blk 4 (68, 89, [some (.inr (7, a0)), some (.inl a1), some (.inl a2)], [], ((fj_u1 q3.2.1 7 a0 3 a2), q3.2.2)) rfl ?_
            cases h
            exact fj_rv rfl rfl
          · rw [if_neg hc4] at h
            refine fj_bt rfl (fj_nt hc4) ?_
            refine fj_blk 4 (68, 89, [some (.inr (7, a0)), some (.inl a1), some (.inl a2)], [], ((fj_u1 q3.2.1 7 a0 3 (q3.2.1 7 a0 3)), q3.2.2)) rfl ?_
            cases h
            exact fj_rv rfl rfl
      · rw [if_neg hc2] at h
        by_cases hc5 : a1 = 22
        · rw [if_pos hc5] at h
          refine fj_swg (t := 62) rfl (by rw [hc5]; rfl) ?_
          refine fj_blk 3 (68, 67, [some (.inr (7, a0)), some (.inl a1), some (.inl a2)], [(.inl (M.1 7 a0 3)), (.inr (7, a0))], M) rfl ?_
          cases hq6 : dm_14 a0 (M.1 7 a0 3) M with
          | none => rw [hq6] at h; cases h
          | some q6 =>
            rw [hq6, Option.bind_some] at h
            refine fj_cl rfl (de_14 X a0 (M.1 7 a0 3) M _ hq6) ?_
            refine fj_blk 4 (68, 89, [some (.inr (7, a0)), some (.inl a1), some (.inl a2)], [], ((fj_u1 q6.1 7 a0 3 a2), q6.2)) rfl ?_
            cases h
            exact fj_rv rfl rfl
        · rw [if_neg hc5] at h
          by_cases hc7 : a1 = 23
          · rw [if_pos hc7] at h
            refine fj_swg (t := 78) rfl (by rw [hc7]; rfl) ?_
            refine fj_blk 2 (68, 80, [some (.inr (7, a0)), some (.inl a1), some (.inl a2)], [(.inr (7, a0)), (.inr (7, a0))], M) rfl ?_
            cases hq8 : dm_15 a0 M with
            | none => rw [hq8] at h; cases h
            | some q8 =>
              rw [hq8, Option.bind_some] at h
              refine fj_cl rfl (de_15 X a0 M _ hq8) ?_
              refine fj_blk 2 (68, 89, [some (.inr (7, a0)), some (.inl a1), some (.inl a2)], [], ((fj_u1 q8.2.1 7 a0 3 q8.1), q8.2.2)) rfl ?_
              cases h
              exact fj_rv rfl rfl
          · rw [if_neg hc7] at h
            refine fj_swg (t := 89) rfl (by simp only [fj_sw, hc1, hc2, hc5, hc7, if_false]) ?_
            cases h
            exact fj_rv rfl rfl
def dm_69_55  (a1 : Nat) (a2 : Int32) (a3 : Int32) (a4 : Int32) (a5 : Int32) (M : fj_M) : Option fj_M := (if a5 < 0 ∨ 64 ≤ a5.toNatClampNeg then none else ((dm_11 a1 (M.1 2 0 a5.toNatClampNeg) M).bind fun q2 => some q2))
set_option maxRecDepth 40000 in
theorem de_69_55 (X : fj_X) (a1 : Nat) (a2 : Int32) (a3 : Int32) (a4 : Int32) (a5 : Int32) (M : fj_M) (r : fj_M) (h : dm_69_55 a1 a2 a3 a4 a5 M = some r) : fj_ev X (69, 55, [some (.inr (0, 0)), some (.inr (7, a1)), some (.inl a2), some (.inl a3), some (.inl a4), some (.inl a5)], [], M) (none, r) := by
    unfold dm_69_55 at h
    refine fj_blk 4 (69, 62, [some (.inr (0, 0)), some (.inr (7, a1)), some (.inl a2), some (.inl a3), some (.inl a4), some (.inl a5)], [(.inl a5), (.inr (2, 0)), (.inr (7, a1))], M) rfl ?_
    by_cases hc1 : a5 < 0 ∨ 64 ≤ a5.toNatClampNeg
    · rw [if_pos hc1] at h
      cases h
    rw [if_neg hc1] at h
    refine fj_ald rfl rfl hc1 ?_
    cases hq2 : dm_11 a1 (M.1 2 0 a5.toNatClampNeg) M with
    | none => rw [hq2] at h; cases h
    | some q2 =>
      rw [hq2, Option.bind_some] at h
      refine fj_cl rfl (de_11 X a1 (M.1 2 0 a5.toNatClampNeg) M _ hq2) ?_
      refine fj_blk 1 (69, 80, [some (.inr (0, 0)), some (.inr (7, a1)), some (.inl a2), some (.inl a3), some (.inl a4), some (.inl a5)], [], q2) rfl ?_
      cases h
      exact fj_rv rfl rfl
def dm_69_32  (a1 : Nat) (a2 : Int32) (a3 : Int32) (a4 : Int32) (s0 : Int32) (M : fj_M) : Option fj_M := ((dm_36 s0 M).bind fun q1 => (if q1.1 = 0 then some q1.2 else (if a2 = 24 then dm_69_55 a1 a2 a3 a4 s0 q1.2 else (if a2 = 26 then dm_69_55 a1 a2 a3 a4 s0 q1.2 else ((dm_12 a1 q1.2).bind fun q5 => (if s0 < 0 ∨ 64 ≤ s0.toNatClampNeg then none else some ((fj_u1 q5.2.1 2 0 s0.toNatClampNeg q5.1), q5.2.2)))))))
set_option maxRecDepth 40000 in
theorem de_69_32 (X : fj_X) (a1 : Nat) (a2 : Int32) (a3 : Int32) (a4 : Int32) (s0 : Int32) (M : fj_M) (r : fj_M) (h : dm_69_32 a1 a2 a3 a4 s0 M = some r) : fj_ev X (69, 32, [some (.inr (0, 0)), some (.inr (7, a1)), some (.inl a2), some (.inl a3), some (.inl a4), none], [(.inl s0)], M) (none, r) := by
    unfold dm_69_32 at h
    refine fj_blk 2 (69, 36, [some (.inr (0, 0)), some (.inr (7, a1)), some (.inl a2), some (.inl a3), some (.inl a4), some (.inl s0)], [(.inl s0)], M) rfl ?_
    cases hq1 : dm_36 s0 M with
    | none => rw [hq1] at h; cases h
    | some q1 =>
      rw [hq1, Option.bind_some] at h
      refine fj_cl rfl (de_36 X s0 M _ hq1) ?_
      by_cases hc2 : q1.1 = 0
      · rw [if_pos hc2] at h
        refine fj_bf rfl (fj_nf hc2) ?_
        cases h
        exact fj_rv rfl rfl
      · rw [if_neg hc2] at h
        refine fj_bt rfl (fj_nt hc2) ?_
        refine fj_blk 2 (69, 46, [some (.inr (0, 0)), some (.inr (7, a1)), some (.inl a2), some (.inl a3), some (.inl a4), some (.inl s0)], [(.inl 24), (.inl a2)], q1.2) rfl ?_
        by_cases hc3 : a2 = 24
        · rw [if_pos hc3] at h
          refine fj_bt rfl (decide_eq_true hc3) ?_
          exact de_69_55 X a1 a2 a3 a4 s0 q1.2 r h
        · rw [if_neg hc3] at h
          refine fj_bf rfl (decide_eq_false hc3) ?_
          refine fj_blk 2 (69, 52, [some (.inr (0, 0)), some (.inr (7, a1)), some (.inl a2), some (.inl a3), some (.inl a4), some (.inl s0)], [(.inl 26), (.inl a2)], q1.2) rfl ?_
          by_cases hc4 : a2 = 26
          · rw [if_pos hc4] at h
            refine fj_bf rfl (fj_nf hc4) ?_
            exact de_69_55 X a1 a2 a3 a4 s0 q1.2 r h
          · rw [if_neg hc4] at h
            refine fj_bt rfl (fj_nt hc4) ?_
            refine fj_blk 4 (69, 76, [some (.inr (0, 0)), some (.inr (7, a1)), some (.inl a2), some (.inl a3), some (.inl a4), some (.inl s0)], [(.inr (7, a1)), (.inl s0), (.inr (2, 0))], q1.2) rfl ?_
            cases hq5 : dm_12 a1 q1.2 with
            | none => rw [hq5] at h; cases h
            | some q5 =>
              rw [hq5, Option.bind_some] at h
              refine fj_cl rfl (de_12 X a1 q1.2 _ hq5) ?_
              by_cases hc6 : s0 < 0 ∨ 64 ≤ s0.toNatClampNeg
              · rw [if_pos hc6] at h
                cases h
              rw [if_neg hc6] at h
              refine fj_ast rfl rfl hc6 ?_
              cases h
              exact fj_rv rfl rfl
def dm_69_17  (a1 : Nat) (a2 : Int32) (a3 : Int32) (s0 : Int32) (M : fj_M) : Option fj_M := (if s0 = 0 then ((dm_12 a1 M).bind fun q2 => dm_69_32 a1 a2 a3 s0 q2.1 q2.2) else dm_69_32 a1 a2 a3 s0 a3 M)
set_option maxRecDepth 40000 in
theorem de_69_17 (X : fj_X) (a1 : Nat) (a2 : Int32) (a3 : Int32) (s0 : Int32) (M : fj_M) (r : fj_M) (h : dm_69_17 a1 a2 a3 s0 M = some r) : fj_ev X (69, 17, [some (.inr (0, 0)), some (.inr (7, a1)), some (.inl a2), some (.inl a3), none, none], [(.inl s0)], M) (none, r) := by
    unfold dm_69_17 at h
    refine fj_blk 2 (69, 21, [some (.inr (0, 0)), some (.inr (7, a1)), some (.inl a2), some (.inl a3), some (.inl s0), none], [(.inl s0)], M) rfl ?_
    by_cases hc1 : s0 = 0
    · rw [if_pos hc1] at h
      refine fj_bt rfl (decide_eq_true hc1) ?_
      refine fj_blk 1 (69, 29, [some (.inr (0, 0)), some (.inr (7, a1)), some (.inl a2), some (.inl a3), some (.inl s0), none], [(.inr (7, a1))], M) rfl ?_
      cases hq2 : dm_12 a1 M with
      | none => rw [hq2] at h; cases h
      | some q2 =>
        rw [hq2, Option.bind_some] at h
        refine fj_cl rfl (de_12 X a1 M _ hq2) ?_
        exact de_69_32 X a1 a2 a3 s0 q2.1 q2.2 r h
    · rw [if_neg hc1] at h
      refine fj_bf rfl (decide_eq_false hc1) ?_
      refine fj_blk 2 (69, 32, [some (.inr (0, 0)), some (.inr (7, a1)), some (.inl a2), some (.inl a3), some (.inl s0), none], [(.inl a3)], M) rfl ?_
      exact de_69_32 X a1 a2 a3 s0 a3 M r h
def dm_69_12  (a1 : Nat) (a2 : Int32) (a3 : Int32) (M : fj_M) : Option fj_M := dm_69_17 a1 a2 a3 1 M
set_option maxRecDepth 40000 in
theorem de_69_12 (X : fj_X) (a1 : Nat) (a2 : Int32) (a3 : Int32) (M : fj_M) (r : fj_M) (h : dm_69_12 a1 a2 a3 M = some r) : fj_ev X (69, 12, [some (.inr (0, 0)), some (.inr (7, a1)), some (.inl a2), some (.inl a3), none, none], [], M) (none, r) := by
    unfold dm_69_12 at h
    refine fj_blk 2 (69, 17, [some (.inr (0, 0)), some (.inr (7, a1)), some (.inl a2), some (.inl a3), none, none], [(.inl 1)], M) rfl ?_
    exact de_69_17 X a1 a2 a3 1 M r h
/-- X5_useMemory -/
def dm_69 (a1 : Nat) (a2 : Int32) (a3 : Int32) (M : fj_M) : Option fj_M := (if a2 = 24 then dm_69_12 a1 a2 a3 M else (if a2 = 25 then dm_69_12 a1 a2 a3 M else dm_69_17 a1 a2 a3 0 M))
set_option maxRecDepth 40000 in
theorem de_69 (X : fj_X) (a1 : Nat) (a2 : Int32) (a3 : Int32) (M : fj_M) (r : fj_M) (h : dm_69 a1 a2 a3 M = some r) : fj_ev X (69, 0, [some (.inr (0, 0)), some (.inr (7, a1)), some (.inl a2), some (.inl a3), none, none], [], M) (none, r) := by
    unfold dm_69 at h
    refine fj_blk 2 (69, 3, [some (.inr (0, 0)), some (.inr (7, a1)), some (.inl a2), some (.inl a3), none, none], [(.inl 24), (.inl a2)], M) rfl ?_
    by_cases hc1 : a2 = 24
    · rw [if_pos hc1] at h
      refine fj_bt rfl (decide_eq_true hc1) ?_
      exact de_69_12 X a1 a2 a3 M r h
    · rw [if_neg hc1] at h
      refine fj_bf rfl (decide_eq_false hc1) ?_
      refine fj_blk 2 (69, 9, [some (.inr (0, 0)), some (.inr (7, a1)), some (.inl a2), some (.inl a3), none, none], [(.inl 25), (.inl a2)], M) rfl ?_
      by_cases hc2 : a2 = 25
      · rw [if_pos hc2] at h
        refine fj_bf rfl (fj_nf hc2) ?_
        exact de_69_12 X a1 a2 a3 M r h
      · rw [if_neg hc2] at h
        refine fj_bt rfl (fj_nt hc2) ?_
        refine fj_blk 1 (69, 17, [some (.inr (0, 0)), some (.inr (7, a1)), some (.inl a2), some (.inl a3), none, none], [(.inl 0)], M) rfl ?_
        exact de_69_17 X a1 a2 a3 0 M r h
def dm_73_25  (a1 : Nat) (a2 : Int32) (a3 : Int32) (a4 : Int32) (s0 : Int32) (M : fj_M) : Option fj_M := ((dm_38 s0 M).bind fun q1 => (if q1.1 = 0 then some q1.2 else (if s0 < 0 ∨ 6 ≤ s0.toNatClampNeg then none else ((dm_1 s0.toNatClampNeg q1.2).bind fun q4 => ((dm_11 a1 q4.1 q4.2).bind fun q5 => ((dm_11 a1 a4 q5).bind fun q6 => some q6))))))
set_option maxRecDepth 40000 in
theorem de_73_25 (X : fj_X) (a1 : Nat) (a2 : Int32) (a3 : Int32) (a4 : Int32) (s0 : Int32) (M : fj_M) (r : fj_M) (h : dm_73_25 a1 a2 a3 a4 s0 M = some r) : fj_ev X (73, 25, [some (.inr (0, 0)), some (.inr (7, a1)), some (.inl a2), some (.inl a3), some (.inl a4), none], [(.inl s0)], M) (none, r) := by
    unfold dm_73_25 at h
    refine fj_blk 2 (73, 29, [some (.inr (0, 0)), some (.inr (7, a1)), some (.inl a2), some (.inl a3), some (.inl a4), some (.inl s0)], [(.inl s0)], M) rfl ?_
    cases hq1 : dm_38 s0 M with
    | none => rw [hq1] at h; cases h
    | some q1 =>
      rw [hq1, Option.bind_some] at h
      refine fj_cl rfl (de_38 X s0 M _ hq1) ?_
      by_cases hc2 : q1.1 = 0
      · rw [if_pos hc2] at h
        refine fj_bt rfl (decide_eq_true hc2) ?_
        cases h
        exact fj_rv rfl rfl
      · rw [if_neg hc2] at h
        refine fj_bf rfl (decide_eq_false hc2) ?_
        refine fj_blk 4 (73, 42, [some (.inr (0, 0)), some (.inr (7, a1)), some (.inl a2), some (.inl a3), some (.inl a4), some (.inl s0)], [(.inl s0), (.inr (5, 0)), (.inr (7, a1))], q1.2) rfl ?_
        by_cases hc3 : s0 < 0 ∨ 6 ≤ s0.toNatClampNeg
        · rw [if_pos hc3] at h
          cases h
        rw [if_neg hc3] at h
        refine fj_aal rfl rfl hc3 ?_
        cases hq4 : dm_1 s0.toNatClampNeg q1.2 with
        | none => rw [hq4] at h; cases h
        | some q4 =>
          rw [hq4, Option.bind_some] at h
          refine fj_cl rfl (de_1 X s0.toNatClampNeg q1.2 _ hq4) ?_
          cases hq5 : dm_11 a1 q4.1 q4.2 with
          | none => rw [hq5] at h; cases h
          | some q5 =>
            rw [hq5, Option.bind_some] at h
            refine fj_cl rfl (de_11 X a1 q4.1 q4.2 _ hq5) ?_
            refine fj_blk 2 (73, 52, [some (.inr (0, 0)), some (.inr (7, a1)), some (.inl a2), some (.inl a3), some (.inl a4), some (.inl s0)], [(.inl a4), (.inr (7, a1))], q5) rfl ?_
            cases hq6 : dm_11 a1 a4 q5 with
            | none => rw [hq6] at h; cases h
            | some q6 =>
              rw [hq6, Option.bind_some] at h
              refine fj_cl rfl (de_11 X a1 a4 q5 _ hq6) ?_
              cases h
              exact fj_rv rfl rfl
def dm_73_13  (a1 : Nat) (a2 : Int32) (a3 : Int32) (s0 : Int32) (M : fj_M) : Option fj_M := (if s0 = 0 then dm_73_25 a1 a2 a3 s0 a2 M else dm_73_25 a1 a2 a3 s0 a3 M)
set_option maxRecDepth 40000 in
theorem de_73_13 (X : fj_X) (a1 : Nat) (a2 : Int32) (a3 : Int32) (s0 : Int32) (M : fj_M) (r : fj_M) (h : dm_73_13 a1 a2 a3 s0 M = some r) : fj_ev X (73, 13, [some (.inr (0, 0)), some (.inr (7, a1)), some (.inl a2), some (.inl a3), none, none], [(.inl s0)], M) (none, r) := by
    unfold dm_73_13 at h
    refine fj_blk 2 (73, 17, [some (.inr (0, 0)), some (.inr (7, a1)), some (.inl a2), some (.inl a3), some (.inl s0), none], [(.inl s0)], M) rfl ?_
    by_cases hc1 : s0 = 0
    · rw [if_pos hc1] at h
      refine fj_bf rfl (fj_nf hc1) ?_
      refine fj_blk 2 (73, 25, [some (.inr (0, 0)), some (.inr (7, a1)), some (.inl a2), some (.inl a3), some (.inl s0), none], [(.inl a2)], M) rfl ?_
      exact de_73_25 X a1 a2 a3 s0 a2 M r h
    · rw [if_neg hc1] at h
      refine fj_bt rfl (fj_nt hc1) ?_
      refine fj_blk 1 (73, 25, [some (.inr (0, 0)), some (.inr (7, a1)), some (.inl a2), some (.inl a3), some (.inl s0), none], [(.inl a3)], M) rfl ?_
      exact de_73_25 X a1 a2 a3 s0 a3 M r h
/-- X5_choose -/
def dm_73 (a1 : Nat) (a2 : Int32) (a3 : Int32) (M : fj_M) : Option fj_M := ((dm_41 a2 M).bind fun q1 => (if q1.1 = 0 then dm_73_13 a1 a2 a3 1 q1.2 else dm_73_13 a1 a2 a3 0 q1.2))
set_option maxRecDepth 40000 in
theorem de_73 (X : fj_X) (a1 : Nat) (a2 : Int32) (a3 : Int32) (M : fj_M) (r : fj_M) (h : dm_73 a1 a2 a3 M = some r) : fj_ev X (73, 0, [some (.inr (0, 0)), some (.inr (7, a1)), some (.inl a2), some (.inl a3), none, none], [], M) (none, r) := by
    unfold dm_73 at h
    refine fj_blk 2 (73, 2, [some (.inr (0, 0)), some (.inr (7, a1)), some (.inl a2), some (.inl a3), none, none], [(.inl a2), (.inr (0, 0))], M) rfl ?_
    cases hq1 : dm_41 a2 M with
    | none => rw [hq1] at h; cases h
    | some q1 =>
      rw [hq1, Option.bind_some] at h
      refine fj_cl rfl (de_41 X a2 M _ hq1) ?_
      by_cases hc2 : q1.1 = 0
      · rw [if_pos hc2] at h
        refine fj_bt rfl (decide_eq_true hc2) ?_
        refine fj_blk 1 (73, 13, [some (.inr (0, 0)), some (.inr (7, a1)), some (.inl a2), some (.inl a3), none, none], [(.inl 1)], q1.2) rfl ?_
        exact de_73_13 X a1 a2 a3 1 q1.2 r h
      · rw [if_neg hc2] at h
        refine fj_bf rfl (decide_eq_false hc2) ?_
        refine fj_blk 2 (73, 13, [some (.inr (0, 0)), some (.inr (7, a1)), some (.inl a2), some (.inl a3), none, none], [(.inl 0)], q1.2) rfl ?_
        exact de_73_13 X a1 a2 a3 0 q1.2 r h
def dm_71_38  (a1 : Nat) (a2 : Int32) (a3 : Int32) (a4 : Int32) (s0 : Int32) (s1 : Nat) (M : fj_M) : Option fj_M := ((dm_11 s1 s0 M).bind fun q1 => some q1)
set_option maxRecDepth 40000 in
theorem de_71_38 (X : fj_X) (a1 : Nat) (a2 : Int32) (a3 : Int32) (a4 : Int32) (s0 : Int32) (s1 : Nat) (M : fj_M) (r : fj_M) (h : dm_71_38 a1 a2 a3 a4 s0 s1 M = some r) : fj_ev X (71, 38, [some (.inr (0, 0)), some (.inr (7, a1)), some (.inl a2), some (.inl a3), some (.inl a4)], [(.inl s0), (.inr (7, s1))], M) (none, r) := by
    unfold dm_71_38 at h
    cases hq1 : dm_11 s1 s0 M with
    | none => rw [hq1] at h; cases h
    | some q1 =>
      rw [hq1, Option.bind_some] at h
      refine fj_cl rfl (de_11 X s1 s0 M _ hq1) ?_
      cases h
      exact fj_rv rfl rfl
def dm_71_27  (a1 : Nat) (a2 : Int32) (a3 : Int32) (a4 : Int32) (M : fj_M) : Option fj_M := (if a4 = 0 then dm_71_38 a1 a2 a3 a4 0 a1 M else dm_71_38 a1 a2 a3 a4 1 a1 M)
set_option maxRecDepth 40000 in
theorem de_71_27 (X : fj_X) (a1 : Nat) (a2 : Int32) (a3 : Int32) (a4 : Int32) (M : fj_M) (r : fj_M) (h : dm_71_27 a1 a2 a3 a4 M = some r) : fj_ev X (71, 27, [some (.inr (0, 0)), some (.inr (7, a1)), some (.inl a2), some (.inl a3), some (.inl a4)], [], M) (none, r) := by
    unfold dm_71_27 at h
    refine fj_blk 2 (71, 30, [some (.inr (0, 0)), some (.inr (7, a1)), some (.inl a2), some (.inl a3), some (.inl a4)], [(.inl a4), (.inr (7, a1))], M) rfl ?_
    by_cases hc1 : a4 = 0
    · rw [if_pos hc1] at h
      refine fj_bt rfl (decide_eq_true hc1) ?_
      refine fj_blk 1 (71, 38, [some (.inr (0, 0)), some (.inr (7, a1)), some (.inl a2), some (.inl a3), some (.inl a4)], [(.inl 0), (.inr (7, a1))], M) rfl ?_
      exact de_71_38 X a1 a2 a3 a4 0 a1 M r h
    · rw [if_neg hc1] at h
      refine fj_bf rfl (decide_eq_false hc1) ?_
      refine fj_blk 2 (71, 38, [some (.inr (0, 0)), some (.inr (7, a1)), some (.inl a2), some (.inl a3), some (.inl a4)], [(.inl 1), (.inr (7, a1))], M) rfl ?_
      exact de_71_38 X a1 a2 a3 a4 1 a1 M r h
/-- X5_trySend -/
def dm_71 (a1 : Nat) (a2 : Int32) (M : fj_M) : Option fj_M := ((dm_12 a1 M).bind fun q1 => ((dm_40 a2 q1.2).bind fun q2 => (if q2.1 = 0 then dm_71_27 a1 a2 q1.1 q2.1 q2.2 else (if a2 < 0 ∨ 6 ≤ a2.toNatClampNeg then none else ((dm_0 a2.toNatClampNeg q1.1 q2.2).bind fun q5 => dm_71_27 a1 a2 q1.1 q2.1 q5)))))
set_option maxRecDepth 40000 in
theorem de_71 (X : fj_X) (a1 : Nat) (a2 : Int32) (M : fj_M) (r : fj_M) (h : dm_71 a1 a2 M = some r) : fj_ev X (71, 0, [some (.inr (0, 0)), some (.inr (7, a1)), some (.inl a2), none, none], [], M) (none, r) := by
    unfold dm_71 at h
    refine fj_blk 1 (71, 1, [some (.inr (0, 0)), some (.inr (7, a1)), some (.inl a2), none, none], [(.inr (7, a1))], M) rfl ?_
    cases hq1 : dm_12 a1 M with
    | none => rw [hq1] at h; cases h
    | some q1 =>
      rw [hq1, Option.bind_some] at h
      refine fj_cl rfl (de_12 X a1 M _ hq1) ?_
      refine fj_blk 3 (71, 7, [some (.inr (0, 0)), some (.inr (7, a1)), some (.inl a2), some (.inl q1.1), none], [(.inl a2), (.inr (0, 0))], q1.2) rfl ?_
      cases hq2 : dm_40 a2 q1.2 with
      | none => rw [hq2] at h; cases h
      | some q2 =>
        rw [hq2, Option.bind_some] at h
        refine fj_cl rfl (de_40 X a2 q1.2 _ hq2) ?_
        refine fj_blk 2 (71, 14, [some (.inr (0, 0)), some (.inr (7, a1)), some (.inl a2), some (.inl q1.1), some (.inl q2.1)], [(.inl q2.1)], q2.2) rfl ?_
        by_cases hc3 : q2.1 = 0
        · rw [if_pos hc3] at h
          refine fj_bt rfl (decide_eq_true hc3) ?_
          exact de_71_27 X a1 a2 q1.1 q2.1 q2.2 r h
        · rw [if_neg hc3] at h
          refine fj_bf rfl (decide_eq_false hc3) ?_
          refine fj_blk 3 (71, 22, [some (.inr (0, 0)), some (.inr (7, a1)), some (.inl a2), some (.inl q1.1), some (.inl q2.1)], [(.inl a2), (.inr (5, 0))], q2.2) rfl ?_
          by_cases hc4 : a2 < 0 ∨ 6 ≤ a2.toNatClampNeg
          · rw [if_pos hc4] at h
            cases h
          rw [if_neg hc4] at h
          refine fj_aal rfl rfl hc4 ?_
          refine fj_blk 1 (71, 24, [some (.inr (0, 0)), some (.inr (7, a1)), some (.inl a2), some (.inl q1.1), some (.inl q2.1)], [(.inl q1.1), (.inr (10, a2.toNatClampNeg))], q2.2) rfl ?_
          cases hq5 : dm_0 a2.toNatClampNeg q1.1 q2.2 with
          | none => rw [hq5] at h; cases h
          | some q5 =>
            rw [hq5, Option.bind_some] at h
            refine fj_cl rfl (de_0 X a2.toNatClampNeg q1.1 q2.2 _ hq5) ?_
            exact de_71_27 X a1 a2 q1.1 q2.1 q5 r h
def dm_72_33  (a1 : Nat) (a2 : Int32) (a3 : Int32) (s0 : Int32) (s1 : Nat) (M : fj_M) : Option fj_M := ((dm_11 s1 s0 M).bind fun q1 => some q1)
set_option maxRecDepth 40000 in
theorem de_72_33 (X : fj_X) (a1 : Nat) (a2 : Int32) (a3 : Int32) (s0 : Int32) (s1 : Nat) (M : fj_M) (r : fj_M) (h : dm_72_33 a1 a2 a3 s0 s1 M = some r) : fj_ev X (72, 33, [some (.inr (0, 0)), some (.inr (7, a1)), some (.inl a2), some (.inl a3)], [(.inl s0), (.inr (7, s1))], M) (none, r) := by
    unfold dm_72_33 at h
    cases hq1 : dm_11 s1 s0 M with
    | none => rw [hq1] at h; cases h
    | some q1 =>
      rw [hq1, Option.bind_some] at h
      refine fj_cl rfl (de_11 X s1 s0 M _ hq1) ?_
      cases h
      exact fj_rv rfl rfl
def dm_72_23  (a1 : Nat) (a2 : Int32) (a3 : Int32) (M : fj_M) : Option fj_M := (if a3 = 0 then dm_72_33 a1 a2 a3 0 a1 M else dm_72_33 a1 a2 a3 1 a1 M)
set_option maxRecDepth 40000 in
theorem de_72_23 (X : fj_X) (a1 : Nat) (a2 : Int32) (a3 : Int32) (M : fj_M) (r : fj_M) (h : dm_72_23 a1 a2 a3 M = some r) : fj_ev X (72, 23, [some (.inr (0, 0)), some (.inr (7, a1)), some (.inl a2), some (.inl a3)], [], M) (none, r) := by
    unfold dm_72_23 at h
    refine fj_blk 2 (72, 25, [some (.inr (0, 0)), some (.inr (7, a1)), some (.inl a2), some (.inl a3)], [(.inl a3), (.inr (7, a1))], M) rfl ?_
    by_cases hc1 : a3 = 0
    · rw [if_pos hc1] at h
      refine fj_bt rfl (decide_eq_true hc1) ?_
      refine fj_blk 1 (72, 33, [some (.inr (0, 0)), some (.inr (7, a1)), some (.inl a2), some (.inl a3)], [(.inl 0), (.inr (7, a1))], M) rfl ?_
      exact de_72_33 X a1 a2 a3 0 a1 M r h
    · rw [if_neg hc1] at h
      refine fj_bf rfl (decide_eq_false hc1) ?_
      refine fj_blk 2 (72, 33, [some (.inr (0, 0)), some (.inr (7, a1)), some (.inl a2), some (.inl a3)], [(.inl 1), (.inr (7, a1))], M) rfl ?_
      exact de_72_33 X a1 a2 a3 1 a1 M r h
/-- X5_tryReceive -/
def dm_72 (a1 : Nat) (a2 : Int32) (M : fj_M) : Option fj_M := ((dm_41 a2 M).bind fun q1 => (if q1.1 = 0 then dm_72_23 a1 a2 q1.1 q1.2 else (if a2 < 0 ∨ 6 ≤ a2.toNatClampNeg then none else ((dm_1 a2.toNatClampNeg q1.2).bind fun q4 => ((dm_11 a1 q4.1 q4.2).bind fun q5 => dm_72_23 a1 a2 q1.1 q5)))))
set_option maxRecDepth 40000 in
theorem de_72 (X : fj_X) (a1 : Nat) (a2 : Int32) (M : fj_M) (r : fj_M) (h : dm_72 a1 a2 M = some r) : fj_ev X (72, 0, [some (.inr (0, 0)), some (.inr (7, a1)), some (.inl a2), none], [], M) (none, r) := by
    unfold dm_72 at h
    refine fj_blk 2 (72, 2, [some (.inr (0, 0)), some (.inr (7, a1)), some (.inl a2), none], [(.inl a2), (.inr (0, 0))], M) rfl ?_
    cases hq1 : dm_41 a2 M with
    | none => rw [hq1] at h; cases h
    | some q1 =>
      rw [hq1, Option.bind_some] at h
      refine fj_cl rfl (de_41 X a2 M _ hq1) ?_
      refine fj_blk 2 (72, 7, [some (.inr (0, 0)), some (.inr (7, a1)), some (.inl a2), some (.inl q1.1)], [(.inl q1.1)], q1.2) rfl ?_
      by_cases hc2 : q1.1 = 0
      · rw [if_pos hc2] at h
        refine fj_bt rfl (decide_eq_true hc2) ?_
        exact de_72_23 X a1 a2 q1.1 q1.2 r h
      · rw [if_neg hc2] at h
        refine fj_bf rfl (decide_eq_false hc2) ?_
        refine fj_blk 4 (72, 16, [some (.inr (0, 0)), some (.inr (7, a1)), some (.inl a2), some (.inl q1.1)], [(.inl a2), (.inr (5, 0)), (.inr (7, a1))], q1.2) rfl ?_
        by_cases hc3 : a2 < 0 ∨ 6 ≤ a2.toNatClampNeg
        · rw [if_pos hc3] at h
          cases h
        rw [if_neg hc3] at h
        refine fj_aal rfl rfl hc3 ?_
        cases hq4 : dm_1 a2.toNatClampNeg q1.2 with
        | none => rw [hq4] at h; cases h
        | some q4 =>
          rw [hq4, Option.bind_some] at h
          refine fj_cl rfl (de_1 X a2.toNatClampNeg q1.2 _ hq4) ?_
          cases hq5 : dm_11 a1 q4.1 q4.2 with
          | none => rw [hq5] at h; cases h
          | some q5 =>
            rw [hq5, Option.bind_some] at h
            refine fj_cl rfl (de_11 X a1 q4.1 q4.2 _ hq5) ?_
            exact de_72_23 X a1 a2 q1.1 q5 r h
/-- X5_useChannel -/
def dm_70 (a1 : Nat) (a2 : Int32) (a3 : Int32) (M : fj_M) : Option fj_M := (if a2 = 35 then ((dm_73 a1 (a3 &&& 7) (a3 >>> (3 &&& 31)) M).bind fun q2 => some q2) else ((dm_38 a3 M).bind fun q3 => (if q3.1 = 0 then some q3.2 else (if a2 = 31 then (if a3 < 0 ∨ 6 ≤ a3.toNatClampNeg then none else ((dm_12 a1 q3.2).bind fun q7 => ((dm_0 a3.toNatClampNeg q7.1 q7.2).bind fun q8 => some q8))) else (if a2 = 32 then (if a3 < 0 ∨ 6 ≤ a3.toNatClampNeg then none else ((dm_1 a3.toNatClampNeg q3.2).bind fun q11 => ((dm_11 a1 q11.1 q11.2).bind fun q12 => some q12))) else (if a2 = 33 then ((dm_71 a1 a3 q3.2).bind fun q14 => some q14) else (if a2 = 34 then ((dm_72 a1 a3 q3.2).bind fun q16 => some q16) else (if a2 = 35 then some q3.2 else (if a2 = 36 then some q3.2 else (if a2 = 37 then some q3.2 else (if a2 = 38 then some q3.2 else (if a2 = 39 then some q3.2 else (if a2 = 40 then some q3.2 else (if a2 = 41 then some q3.2 else (if a2 = 42 then some q3.2 else (if a2 = 43 then some q3.2 else (if a2 = 44 then (if a3 < 0 ∨ 6 ≤ a3.toNatClampNeg then none else ((dm_11 a1 (q3.2.1 10 a3.toNatClampNeg 1) q3.2).bind fun q28 => some q28)) else some q3.2)))))))))))))))))
set_option maxRecDepth 40000 in
theorem de_70 (X : fj_X) (a1 : Nat) (a2 : Int32) (a3 : Int32) (M : fj_M) (r : fj_M) (h : dm_70 a1 a2 a3 M = some r) : fj_ev X (70, 0, [some (.inr (0, 0)), some (.inr (7, a1)), some (.inl a2), some (.inl a3)], [], M) (none, r) := by
    unfold dm_70 at h
    refine fj_blk 2 (70, 3, [some (.inr (0, 0)), some (.inr (7, a1)), some (.inl a2), some (.inl a3)], [(.inl 35), (.inl a2)], M) rfl ?_
    by_cases hc1 : a2 = 35
    · rw [if_pos hc1] at h
      refine fj_bf rfl (fj_nf hc1) ?_
      refine fj_blk 8 (70, 15, [some (.inr (0, 0)), some (.inr (7, a1)), some (.inl a2), some (.inl a3)], [(.inl (a3 >>> (3 &&& 31))), (.inl (a3 &&& 7)), (.inr (7, a1)), (.inr (0, 0))], M) rfl ?_
      cases hq2 : dm_73 a1 (a3 &&& 7) (a3 >>> (3 &&& 31)) M with
      | none => rw [hq2] at h; cases h
      | some q2 =>
        rw [hq2, Option.bind_some] at h
        refine fj_cl rfl (de_73 X a1 (a3 &&& 7) (a3 >>> (3 &&& 31)) M _ hq2) ?_
        cases h
        exact fj_rv rfl rfl
    · rw [if_neg hc1] at h
      refine fj_bt rfl (fj_nt hc1) ?_
      refine fj_blk 1 (70, 20, [some (.inr (0, 0)), some (.inr (7, a1)), some (.inl a2), some (.inl a3)], [(.inl a3)], M) rfl ?_
      cases hq3 : dm_38 a3 M with
      | none => rw [hq3] at h; cases h
      | some q3 =>
        rw [hq3, Option.bind_some] at h
        refine fj_cl rfl (de_38 X a3 M _ hq3) ?_
        by_cases hc4 : q3.1 = 0
        · rw [if_pos hc4] at h
          refine fj_bf rfl (fj_nf hc4) ?_
          cases h
          exact fj_rv rfl rfl
        · rw [if_neg hc4] at h
          refine fj_bt rfl (fj_nt hc4) ?_
          refine fj_blk 1 (70, 28, [some (.inr (0, 0)), some (.inr (7, a1)), some (.inl a2), some (.inl a3)], [(.inl a2)], q3.2) rfl ?_
          by_cases hc5 : a2 = 31
          · rw [if_pos hc5] at h
            refine fj_swg (t := 100) rfl (by rw [hc5]; rfl) ?_
            refine fj_blk 3 (70, 105, [some (.inr (0, 0)), some (.inr (7, a1)), some (.inl a2), some (.inl a3)], [(.inl a3), (.inr (5, 0))], q3.2) rfl ?_
            by_cases hc6 : a3 < 0 ∨ 6 ≤ a3.toNatClampNeg
            · rw [if_pos hc6] at h
              cases h
            rw [if_neg hc6] at h
            refine fj_aal rfl rfl hc6 ?_
            refine fj_blk 1 (70, 107, [some (.inr (0, 0)), some (.inr (7, a1)), some (.inl a2), some (.inl a3)], [(.inr (7, a1)), (.inr (10, a3.toNatClampNeg))], q3.2) rfl ?_
            cases hq7 : dm_12 a1 q3.2 with
            | none => rw [hq7] at h; cases h
            | some q7 =>
              rw [hq7, Option.bind_some] at h
              refine fj_cl rfl (de_12 X a1 q3.2 _ hq7) ?_
              cases hq8 : dm_0 a3.toNatClampNeg q7.1 q7.2 with
              | none => rw [hq8] at h; cases h
              | some q8 =>
                rw [hq8, Option.bind_some] at h
                refine fj_cl rfl (de_0 X a3.toNatClampNeg q7.1 q7.2 _ hq8) ?_
                refine fj_blk 1 (70, 166, [some (.inr (0, 0)), some (.inr (7, a1)), some (.inl a2), some (.inl a3)], [], q8) rfl ?_
                cases h
                exact fj_rv rfl rfl
          · rw [if_neg hc5] at h
            by_cases hc9 : a2 = 32
            · rw [if_pos hc9] at h
              refine fj_swg (t := 116) rfl (by rw [hc9]; rfl) ?_
              refine fj_blk 4 (70, 122, [some (.inr (0, 0)), some (.inr (7, a1)), some (.inl a2), some (.inl a3)], [(.inl a3), (.inr (5, 0)), (.inr (7, a1))], q3.2) rfl ?_
              by_cases hc10 : a3 < 0 ∨ 6 ≤ a3.toNatClampNeg
              · rw [if_pos hc10] at h
                cases h
              rw [if_neg hc10] at h
              refine fj_aal rfl rfl hc10 ?_
              cases hq11 : dm_1 a3.toNatClampNeg q3.2 with
              | none => rw [hq11] at h; cases h
              | some q11 =>
                rw [hq11, Option.bind_some] at h
                refine fj_cl rfl (de_1 X a3.toNatClampNeg q3.2 _ hq11) ?_
                cases hq12 : dm_11 a1 q11.1 q11.2 with
                | none => rw [hq12] at h; cases h
                | some q12 =>
                  rw [hq12, Option.bind_some] at h
                  refine fj_cl rfl (de_11 X a1 q11.1 q11.2 _ hq12) ?_
                  refine fj_blk 1 (70, 166, [some (.inr (0, 0)), some (.inr (7, a1)), some (.inl a2), some (.inl a3)], [], q12) rfl ?_
                  cases h
                  exact fj_rv rfl rfl
            · rw [if_neg hc9] at h
              by_cases hc13 : a2 = 33
              · rw [if_pos hc13] at h
                refine fj_swg (t := 132) rfl (by rw [hc13]; rfl) ?_
                refine fj_blk 3 (70, 135, [some (.inr (0, 0)), some (.inr (7, a1)), some (.inl a2), some (.inl a3)], [(.inl a3), (.inr (7, a1)), (.inr (0, 0))], q3.2) rfl ?_
                cases hq14 : dm_71 a1 a3 q3.2 with
                | none => rw [hq14] at h; cases h
                | some q14 =>
                  rw [hq14, Option.bind_some] at h
                  refine fj_cl rfl (de_71 X a1 a3 q3.2 _ hq14) ?_
                  refine fj_blk 1 (70, 166, [some (.inr (0, 0)), some (.inr (7, a1)), some (.inl a2), some (.inl a3)], [], q14) rfl ?_
                  cases h
                  exact fj_rv rfl rfl
              · rw [if_neg hc13] at h
                by_cases hc15 : a2 = 34
                · rw [if_pos hc15] at h
                  refine fj_swg (t := 141) rfl (by rw [hc15]; rfl) ?_
                  refine fj_blk 3 (70, 144, [some (.inr (0, 0)), some (.inr (7, a1)), some (.inl a2), some (.inl a3)], [(.inl a3), (.inr (7, a1)), (.inr (0, 0))], q3.2) rfl ?_
                  cases hq16 : dm_72 a1 a3 q3.2 with
                  | none => rw [hq16] at h; cases h
                  | some q16 =>
                    rw [hq16, Option.bind_some] at h
                    refine fj_cl rfl (de_72 X a1 a3 q3.2 _ hq16) ?_
                    refine fj_blk 1 (70, 166, [some (.inr (0, 0)), some (.inr (7, a1)), some (.inl a2), some (.inl a3)], [], q16) rfl ?_
                    cases h
                    exact fj_rv rfl rfl
                · rw [if_neg hc15] at h
                  by_cases hc17 : a2 = 35
                  · rw [if_pos hc17] at h
                    refine fj_swg (t := 166) rfl (by rw [hc17]; rfl) ?_
                    cases h
                    exact fj_rv rfl rfl
                  · rw [if_neg hc17] at h
                    by_cases hc18 : a2 = 36
                    · rw [if_pos hc18] at h
                      refine fj_swg (t := 166) rfl (by rw [hc18]; rfl) ?_
                      cases h
                      exact fj_rv rfl rfl
                    · rw [if_neg hc18] at h
                      by_cases hc19 : a2 = 37
                      · rw [if_pos hc19] at h
                        refine fj_swg (t := 166) rfl (by rw [hc19]; rfl) ?_
                        cases h
                        exact fj_rv rfl rfl
                      · rw [if_neg hc19] at h
                        by_cases hc20 : a2 = 38
                        · rw [if_pos hc20] at h
                          refine fj_swg (t := 166) rfl (by rw [hc20]; rfl) ?_
                          cases h
                          exact fj_rv rfl rfl
                        · rw [if_neg hc20] at h
                          by_cases hc21 : a2 = 39
                          · rw [if_pos hc21] at h
                            refine fj_swg (t := 166) rfl (by rw [hc21]; rfl) ?_
                            cases h
                            exact fj_rv rfl rfl
                          · rw [if_neg hc21] at h
                            by_cases hc22 : a2 = 40
                            · rw [if_pos hc22] at h
                              refine fj_swg (t := 166) rfl (by rw [hc22]; rfl) ?_
                              cases h
                              exact fj_rv rfl rfl
                            · rw [if_neg hc22] at h
                              by_cases hc23 : a2 = 41
                              · rw [if_pos hc23] at h
                                refine fj_swg (t := 166) rfl (by rw [hc23]; rfl) ?_
                                cases h
                                exact fj_rv rfl rfl
                              · rw [if_neg hc23] at h
                                by_cases hc24 : a2 = 42
                                · rw [if_pos hc24] at h
                                  refine fj_swg (t := 166) rfl (by rw [hc24]; rfl) ?_
                                  cases h
                                  exact fj_rv rfl rfl
                                · rw [if_neg hc24] at h
                                  by_cases hc25 : a2 = 43
                                  · rw [if_pos hc25] at h
                                    refine fj_swg (t := 166) rfl (by rw [hc25]; rfl) ?_
                                    cases h
                                    exact fj_rv rfl rfl
                                  · rw [if_neg hc25] at h
                                    by_cases hc26 : a2 = 44
                                    · rw [if_pos hc26] at h
                                      refine fj_swg (t := 150) rfl (by rw [hc26]; rfl) ?_
                                      refine fj_blk 4 (70, 156, [some (.inr (0, 0)), some (.inr (7, a1)), some (.inl a2), some (.inl a3)], [(.inl a3), (.inr (5, 0)), (.inr (7, a1))], q3.2) rfl ?_
                                      by_cases hc27 : a3 < 0 ∨ 6 ≤ a3.toNatClampNeg
                                      · rw [if_pos hc27] at h
                                        cases h
                                      rw [if_neg hc27] at h
                                      refine fj_aal rfl rfl hc27 ?_
                                      refine fj_blk 1 (70, 160, [some (.inr (0, 0)), some (.inr (7, a1)), some (.inl a2), some (.inl a3)], [(.inl (q3.2.1 10 a3.toNatClampNeg 1)), (.inr (7, a1))], q3.2) rfl ?_
                                      cases hq28 : dm_11 a1 (q3.2.1 10 a3.toNatClampNeg 1) q3.2 with
                                      | none => rw [hq28] at h; cases h
                                      | some q28 =>
                                        rw [hq28, Option.bind_some] at h
                                        refine fj_cl rfl (de_11 X a1 (q3.2.1 10 a3.toNatClampNeg 1) q3.2 _ hq28) ?_
                                        refine fj_blk 1 (70, 166, [some (.inr (0, 0)), some (.inr (7, a1)), some (.inl a2), some (.inl a3)], [], q28) rfl ?_
                                        cases h
                                        exact fj_rv rfl rfl
                                    · rw [if_neg hc26] at h
                                      refine fj_swg (t := 166) rfl (by simp only [fj_sw, hc5, hc9, hc13, hc15, hc17, hc18, hc19, hc20, hc21, hc22, hc23, hc24, hc25, hc26, if_false]) ?_
                                      cases h
                                      exact fj_rv rfl rfl
/-- X5_sleep -/
def dm_76 (a1 : Nat) (a2 : Int32) (M : fj_M) : Option fj_M := (if a2 < 1 then some M else some ((fj_u1 (fj_u1 M.1 7 a1 8 (((M.1 0 0 10) + 1) + (if 1000000 < a2 then 1000000 else a2))) 7 a1 2 5), M.2))
set_option maxRecDepth 40000 in
theorem de_76 (X : fj_X) (a1 : Nat) (a2 : Int32) (M : fj_M) (r : fj_M) (h : dm_76 a1 a2 M = some r) : fj_ev X (76, 0, [some (.inr (0, 0)), some (.inr (7, a1)), some (.inl a2)], [], M) (none, r) := by
    unfold dm_76 at h
    refine fj_blk 2 (76, 2, [some (.inr (0, 0)), some (.inr (7, a1)), some (.inl a2)], [(.inl 1), (.inl a2)], M) rfl ?_
    by_cases hc1 : a2 < 1
    · rw [if_pos hc1] at h
      refine fj_bt rfl (decide_eq_true hc1) ?_
      cases h
      exact fj_rv rfl rfl
    · rw [if_neg hc1] at h
      refine fj_bf rfl (decide_eq_false hc1) ?_
      refine fj_blk 13 (76, 28, [some (.inr (0, 0)), some (.inr (7, a1)), some (.inl a2)], [], ((fj_u1 (fj_u1 M.1 7 a1 8 (((M.1 0 0 10) + 1) + (if 1000000 < a2 then 1000000 else a2))) 7 a1 2 5), M.2)) rfl ?_
      cases h
      exact fj_rv rfl rfl
/-- X5_print -/
def dm_77 (a1 : Int32) (M : fj_M) : Option fj_M := (if 300 ≤ (M.1 0 0 11) then some ((fj_u1 M.1 0 0 11 ((M.1 0 0 11) + 1)), M.2) else (if (M.1 0 0 11) < 0 ∨ 300 ≤ (M.1 0 0 11).toNatClampNeg then none else some ((fj_u1 (fj_u1 M.1 3 0 ((M.1 0 0 11).toNatClampNeg) a1) 0 0 11 (((fj_u1 M.1 3 0 ((M.1 0 0 11).toNatClampNeg) a1) 0 0 11) + 1)), M.2)))
set_option maxRecDepth 40000 in
theorem de_77 (X : fj_X) (a1 : Int32) (M : fj_M) (r : fj_M) (h : dm_77 a1 M = some r) : fj_ev X (77, 0, [some (.inr (0, 0)), some (.inl a1)], [], M) (none, r) := by
    unfold dm_77 at h
    refine fj_blk 3 (77, 7, [some (.inr (0, 0)), some (.inl a1)], [(.inl 300), (.inl (M.1 0 0 11))], M) rfl ?_
    by_cases hc1 : 300 ≤ (M.1 0 0 11)
    · rw [if_pos hc1] at h
      refine fj_bt rfl (decide_eq_true hc1) ?_
      refine fj_blk 6 (77, 30, [some (.inr (0, 0)), some (.inl a1)], [], ((fj_u1 M.1 0 0 11 ((M.1 0 0 11) + 1)), M.2)) rfl ?_
      cases h
      exact fj_rv rfl rfl
    · rw [if_neg hc1] at h
      refine fj_bf rfl (decide_eq_false hc1) ?_
      refine fj_blk 5 (77, 19, [some (.inr (0, 0)), some (.inl a1)], [(.inl a1), (.inl (M.1 0 0 11)), (.inr (3, 0))], M) rfl ?_
      by_cases hc2 : (M.1 0 0 11) < 0 ∨ 300 ≤ (M.1 0 0 11).toNatClampNeg
      · rw [if_pos hc2] at h
        cases h
      rw [if_neg hc2] at h
      refine fj_ast rfl rfl hc2 ?_
      refine fj_blk 6 (77, 30, [some (.inr (0, 0)), some (.inl a1)], [], ((fj_u1 (fj_u1 M.1 3 0 ((M.1 0 0 11).toNatClampNeg) a1) 0 0 11 (((fj_u1 M.1 3 0 ((M.1 0 0 11).toNatClampNeg) a1) 0 0 11) + 1)), M.2)) rfl ?_
      cases h
      exact fj_rv rfl rfl
/-- X5_outcomeOf -/
def dm_75 (a1 : Int32) (M : fj_M) : Option (Int32 × fj_M) := ((dm_37 a1 M).bind fun q1 => (if q1.1 = 0 then some (0, q1.2) else (if a1 < 0 ∨ 12 ≤ a1.toNatClampNeg then none else some (q1.2.1 7 a1.toNatClampNeg 9, q1.2))))
set_option maxRecDepth 40000 in
theorem de_75 (X : fj_X) (a1 : Int32) (M : fj_M) (r : (Int32 × fj_M)) (h : dm_75 a1 M = some r) : fj_ev X (75, 0, [some (.inr (0, 0)), some (.inl a1)], [], M) (some r.1, r.2) := by
    unfold dm_75 at h
    refine fj_blk 1 (75, 1, [some (.inr (0, 0)), some (.inl a1)], [(.inl a1)], M) rfl ?_
    cases hq1 : dm_37 a1 M with
    | none => rw [hq1] at h; cases h
    | some q1 =>
      rw [hq1, Option.bind_some] at h
      refine fj_cl rfl (de_37 X a1 M _ hq1) ?_
      by_cases hc2 : q1.1 = 0
      · rw [if_pos hc2] at h
        refine fj_bt rfl (decide_eq_true hc2) ?_
        refine fj_blk 1 (75, 20, [some (.inr (0, 0)), some (.inl a1)], [(.inl 0)], q1.2) rfl ?_
        cases h
        exact fj_ri rfl rfl
      · rw [if_neg hc2] at h
        refine fj_bf rfl (decide_eq_false hc2) ?_
        refine fj_blk 3 (75, 12, [some (.inr (0, 0)), some (.inl a1)], [(.inl a1), (.inr (4, 0))], q1.2) rfl ?_
        by_cases hc3 : a1 < 0 ∨ 12 ≤ a1.toNatClampNeg
        · rw [if_pos hc3] at h
          cases h
        rw [if_neg hc3] at h
        refine fj_aal rfl rfl hc3 ?_
        refine fj_blk 2 (75, 20, [some (.inr (0, 0)), some (.inl a1)], [(.inl (q1.2.1 7 a1.toNatClampNeg 9))], q1.2) rfl ?_
        cases h
        exact fj_ri rfl rfl
/-- X5_useItself -/
def dm_74 (a1 : Nat) (a2 : Int32) (a3 : Int32) (M : fj_M) : Option fj_M := (if a2 = 29 then some ((fj_u1 M.1 0 0 9 0), M.2) else (if a2 = 30 then ((dm_12 a1 M).bind fun q3 => ((dm_9 a1 7 q3.1 q3.2).bind fun q4 => some q4)) else (if a2 = 31 then some M else (if a2 = 32 then some M else (if a2 = 33 then some M else (if a2 = 34 then some M else (if a2 = 35 then some M else (if a2 = 36 then ((dm_12 a1 M).bind fun q11 => ((dm_76 a1 q11.1 q11.2).bind fun q12 => some q12)) else (if a2 = 37 then ((dm_11 a1 (M.1 0 0 8) M).bind fun q14 => some q14) else (if a2 = 38 then ((dm_11 a1 (M.1 0 0 10) M).bind fun q16 => some q16) else (if a2 = 39 then ((dm_12 a1 M).bind fun q18 => ((dm_77 q18.1 q18.2).bind fun q19 => some q19)) else (if a2 = 40 then some M else (if a2 = 41 then ((dm_12 a1 M).bind fun q22 => ((dm_75 q22.1 q22.2).bind fun q23 => ((dm_11 a1 q23.1 q23.2).bind fun q24 => some q24))) else (if a2 = 42 then some ((fj_u1 M.1 7 a1 6 a3), M.2) else (if a2 = 43 then ((dm_12 a1 M).bind fun q27 => some ((fj_u1 q27.2.1 7 a1 7 ((M.1 7 a1 7) ||| (1 <<< (q27.1 &&& 31)))), q27.2.2)) else (if a2 = 44 then some M else (if a2 = 45 then ((dm_12 a1 M).bind fun q30 => ((dm_13 a1 q30.1 q30.2).bind fun q31 => ((dm_11 a1 q31.1 q31.2).bind fun q32 => some q32))) else some M)))))))))))))))))
set_option maxRecDepth 40000 in
theorem de_74 (X : fj_X) (a1 : Nat) (a2 : Int32) (a3 : Int32) (M : fj_M) (r : fj_M) (h : dm_74 a1 a2 a3 M = some r) : fj_ev X (74, 0, [some (.inr (0, 0)), some (.inr (7, a1)), some (.inl a2), some (.inl a3)], [], M) (none, r) := by
    unfold dm_74 at h
    refine fj_blk 1 (74, 1, [some (.inr (0, 0)), some (.inr (7, a1)), some (.inl a2), some (.inl a3)], [(.inl a2)], M) rfl ?_
    by_cases hc1 : a2 = 29
    · rw [if_pos hc1] at h
      refine fj_swg (t := 84) rfl (by rw [hc1]; rfl) ?_
      refine fj_blk 4 (74, 206, [some (.inr (0, 0)), some (.inr (7, a1)), some (.inl a2), some (.inl a3)], [], ((fj_u1 M.1 0 0 9 0), M.2)) rfl ?_
      cases h
      exact fj_rv rfl rfl
    · rw [if_neg hc1] at h
      by_cases hc2 : a2 = 30
      · rw [if_pos hc2] at h
        refine fj_swg (t := 92) rfl (by rw [hc2]; rfl) ?_
        refine fj_blk 3 (74, 96, [some (.inr (0, 0)), some (.inr (7, a1)), some (.inl a2), some (.inl a3)], [(.inr (7, a1)), (.inl 7), (.inr (7, a1))], M) rfl ?_
        cases hq3 : dm_12 a1 M with
        | none => rw [hq3] at h; cases h
        | some q3 =>
          rw [hq3, Option.bind_some] at h
          refine fj_cl rfl (de_12 X a1 M _ hq3) ?_
          cases hq4 : dm_9 a1 7 q3.1 q3.2 with
          | none => rw [hq4] at h; cases h
          | some q4 =>
            rw [hq4, Option.bind_some] at h
            refine fj_cl rfl (de_9 X a1 7 q3.1 q3.2 _ hq4) ?_
            refine fj_blk 1 (74, 206, [some (.inr (0, 0)), some (.inr (7, a1)), some (.inl a2), some (.inl a3)], [], q4) rfl ?_
            cases h
            exact fj_rv rfl rfl
      · rw [if_neg hc2] at h
        by_cases hc5 : a2 = 31
        · rw [if_pos hc5] at h
          refine fj_swg (t := 206) rfl (by rw [hc5]; rfl) ?_
          cases h
          exact fj_rv rfl rfl
        · rw [if_neg hc5] at h
          by_cases hc6 : a2 = 32
          · rw [if_pos hc6] at h
            refine fj_swg (t := 206) rfl (by rw [hc6]; rfl) ?_
            cases h
            exact fj_rv rfl rfl
          · rw [if_neg hc6] at h
            by_cases hc7 : a2 = 33
            · rw [if_pos hc7] at h
              refine fj_swg (t := 206) rfl (by rw [hc7]; rfl) ?_
              cases h
              exact fj_rv rfl rfl
            · rw [if_neg hc7] at h
              by_cases hc8 : a2 = 34
              · rw [if_pos hc8] at h
                refine fj_swg (t := 206) rfl (by rw [hc8]; rfl) ?_
                cases h
                exact fj_rv rfl rfl
              · rw [if_neg hc8] at h
                by_cases hc9 : a2 = 35
                · rw [if_pos hc9] at h
                  refine fj_swg (t := 206) rfl (by rw [hc9]; rfl) ?_
                  cases h
                  exact fj_rv rfl rfl
                · rw [if_neg hc9] at h
                  by_cases hc10 : a2 = 36
                  · rw [if_pos hc10] at h
                    refine fj_swg (t := 105) rfl (by rw [hc10]; rfl) ?_
                    refine fj_blk 3 (74, 108, [some (.inr (0, 0)), some (.inr (7, a1)), some (.inl a2), some (.inl a3)], [(.inr (7, a1)), (.inr (7, a1)), (.inr (0, 0))], M) rfl ?_
                    cases hq11 : dm_12 a1 M with
                    | none => rw [hq11] at h; cases h
                    | some q11 =>
                      rw [hq11, Option.bind_some] at h
                      refine fj_cl rfl (de_12 X a1 M _ hq11) ?_
                      cases hq12 : dm_76 a1 q11.1 q11.2 with
                      | none => rw [hq12] at h; cases h
                      | some q12 =>
                        rw [hq12, Option.bind_some] at h
                        refine fj_cl rfl (de_76 X a1 q11.1 q11.2 _ hq12) ?_
                        refine fj_blk 1 (74, 206, [some (.inr (0, 0)), some (.inr (7, a1)), some (.inl a2), some (.inl a3)], [], q12) rfl ?_
                        cases h
                        exact fj_rv rfl rfl
                  · rw [if_neg hc10] at h
                    by_cases hc13 : a2 = 37
                    · rw [if_pos hc13] at h
                      refine fj_swg (t := 117) rfl (by rw [hc13]; rfl) ?_
                      refine fj_blk 3 (74, 122, [some (.inr (0, 0)), some (.inr (7, a1)), some (.inl a2), some (.inl a3)], [(.inl (M.1 0 0 8)), (.inr (7, a1))], M) rfl ?_
                      cases hq14 : dm_11 a1 (M.1 0 0 8) M with
                      | none => rw [hq14] at h; cases h
                      | some q14 =>
                        rw [hq14, Option.bind_some] at h
                        refine fj_cl rfl (de_11 X a1 (M.1 0 0 8) M _ hq14) ?_
                        refine fj_blk 1 (74, 206, [some (.inr (0, 0)), some (.inr (7, a1)), some (.inl a2), some (.inl a3)], [], q14) rfl ?_
                        cases h
                        exact fj_rv rfl rfl
                    · rw [if_neg hc13] at h
                      by_cases hc15 : a2 = 38
                      · rw [if_pos hc15] at h
                        refine fj_swg (t := 128) rfl (by rw [hc15]; rfl) ?_
                        refine fj_blk 3 (74, 133, [some (.inr (0, 0)), some (.inr (7, a1)), some (.inl a2), some (.inl a3)], [(.inl (M.1 0 0 10)), (.inr (7, a1))], M) rfl ?_
                        cases hq16 : dm_11 a1 (M.1 0 0 10) M with
                        | none => rw [hq16] at h; cases h
                        | some q16 =>
                          rw [hq16, Option.bind_some] at h
                          refine fj_cl rfl (de_11 X a1 (M.1 0 0 10) M _ hq16) ?_
                          refine fj_blk 1 (74, 206, [some (.inr (0, 0)), some (.inr (7, a1)), some (.inl a2), some (.inl a3)], [], q16) rfl ?_
                          cases h
                          exact fj_rv rfl rfl
                      · rw [if_neg hc15] at h
                        by_cases hc17 : a2 = 39
                        · rw [if_pos hc17] at h
                          refine fj_swg (t := 139) rfl (by rw [hc17]; rfl) ?_
                          refine fj_blk 2 (74, 141, [some (.inr (0, 0)), some (.inr (7, a1)), some (.inl a2), some (.inl a3)], [(.inr (7, a1)), (.inr (0, 0))], M) rfl ?_
                          cases hq18 : dm_12 a1 M with
                          | none => rw [hq18] at h; cases h
                          | some q18 =>
                            rw [hq18, Option.bind_some] at h
                            refine fj_cl rfl (de_12 X a1 M _ hq18) ?_
                            cases hq19 : dm_77 q18.1 q18.2 with
                            | none => rw [hq19] at h; cases h
                            | some q19 =>
                              rw [hq19, Option.bind_some] at h
                              refine fj_cl rfl (de_77 X q18.1 q18.2 _ hq19) ?_
                              refine fj_blk 1 (74, 206, [some (.inr (0, 0)), some (.inr (7, a1)), some (.inl a2), some (.inl a3)], [], q19) rfl ?_
                              cases h
                              exact fj_rv rfl rfl
                        · rw [if_neg hc17] at h
                          by_cases hc20 : a2 = 40
                          · rw [if_pos hc20] at h
                            refine fj_swg (t := 206) rfl (by rw [hc20]; rfl) ?_
                            cases h
                            exact fj_rv rfl rfl
                          · rw [if_neg hc20] at h
                            by_cases hc21 : a2 = 41
                            · rw [if_pos hc21] at h
                              refine fj_swg (t := 150) rfl (by rw [hc21]; rfl) ?_
                              refine fj_blk 3 (74, 153, [some (.inr (0, 0)), some (.inr (7, a1)), some (.inl a2), some (.inl a3)], [(.inr (7, a1)), (.inr (0, 0)), (.inr (7, a1))], M) rfl ?_
                              cases hq22 : dm_12 a1 M with
                              | none => rw [hq22] at h; cases h
                              | some q22 =>
                                rw [hq22, Option.bind_some] at h
                                refine fj_cl rfl (de_12 X a1 M _ hq22) ?_
                                cases hq23 : dm_75 q22.1 q22.2 with
                                | none => rw [hq23] at h; cases h
                                | some q23 =>
                                  rw [hq23, Option.bind_some] at h
                                  refine fj_cl rfl (de_75 X q22.1 q22.2 _ hq23) ?_
                                  cases hq24 : dm_11 a1 q23.1 q23.2 with
                                  | none => rw [hq24] at h; cases h
                                  | some q24 =>
                                    rw [hq24, Option.bind_some] at h
                                    refine fj_cl rfl (de_11 X a1 q23.1 q23.2 _ hq24) ?_
                                    refine fj_blk 1 (74, 206, [some (.inr (0, 0)), some (.inr (7, a1)), some (.inl a2), some (.inl a3)], [], q24) rfl ?_
                                    cases h
                                    exact fj_rv rfl rfl
                            · rw [if_neg hc21] at h
                              by_cases hc25 : a2 = 42
                              · rw [if_pos hc25] at h
                                refine fj_swg (t := 183) rfl (by rw [hc25]; rfl) ?_
                                refine fj_blk 4 (74, 206, [some (.inr (0, 0)), some (.inr (7, a1)), some (.inl a2), some (.inl a3)], [], ((fj_u1 M.1 7 a1 6 a3), M.2)) rfl ?_
                                cases h
                                exact fj_rv rfl rfl
                              · rw [if_neg hc25] at h
                                by_cases hc26 : a2 = 43
                                · rw [if_pos hc26] at h
                                  refine fj_swg (t := 165) rfl (by rw [hc26]; rfl) ?_
                                  refine fj_blk 5 (74, 172, [some (.inr (0, 0)), some (.inr (7, a1)), some (.inl a2), some (.inl a3)], [(.inr (7, a1)), (.inl 1), (.inl (M.1 7 a1 7)), (.inr (7, a1))], M) rfl ?_
                                  cases hq27 : dm_12 a1 M with
                                  | none => rw [hq27] at h; cases h
                                  | some q27 =>
                                    rw [hq27, Option.bind_some] at h
                                    refine fj_cl rfl (de_12 X a1 M _ hq27) ?_
                                    refine fj_blk 4 (74, 206, [some (.inr (0, 0)), some (.inr (7, a1)), some (.inl a2), some (.inl a3)], [], ((fj_u1 q27.2.1 7 a1 7 ((M.1 7 a1 7) ||| (1 <<< (q27.1 &&& 31)))), q27.2.2)) rfl ?_
                                    cases h
                                    exact fj_rv rfl rfl
                                · rw [if_neg hc26] at h
                                  by_cases hc28 : a2 = 44
                                  · rw [if_pos hc28] at h
                                    refine fj_swg (t := 206) rfl (by rw [hc28]; rfl) ?_
                                    cases h
                                    exact fj_rv rfl rfl
                                  · rw [if_neg hc28] at h
                                    by_cases hc29 : a2 = 45
                                    · rw [if_pos hc29] at h
                                      refine fj_swg (t := 191) rfl (by rw [hc29]; rfl) ?_
                                      refine fj_blk 3 (74, 194, [some (.inr (0, 0)), some (.inr (7, a1)), some (.inl a2), some (.inl a3)], [(.inr (7, a1)), (.inr (7, a1)), (.inr (7, a1))], M) rfl ?_
                                      cases hq30 : dm_12 a1 M with
                                      | none => rw [hq30] at h; cases h
                                      | some q30 =>
                                        rw [hq30, Option.bind_some] at h
                                        refine fj_cl rfl (de_12 X a1 M _ hq30) ?_
                                        cases hq31 : dm_13 a1 q30.1 q30.2 with
                                        | none => rw [hq31] at h; cases h
                                        | some q31 =>
                                          rw [hq31, Option.bind_some] at h
                                          refine fj_cl rfl (de_13 X a1 q30.1 q30.2 _ hq31) ?_
                                          cases hq32 : dm_11 a1 q31.1 q31.2 with
                                          | none => rw [hq32] at h; cases h
                                          | some q32 =>
                                            rw [hq32, Option.bind_some] at h
                                            refine fj_cl rfl (de_11 X a1 q31.1 q31.2 _ hq32) ?_
                                            refine fj_blk 1 (74, 206, [some (.inr (0, 0)), some (.inr (7, a1)), some (.inl a2), some (.inl a3)], [], q32) rfl ?_
                                            cases h
                                            exact fj_rv rfl rfl
                                    · rw [if_neg hc29] at h
                                      refine fj_swg (t := 206) rfl (by simp only [fj_sw, hc1, hc2, hc5, hc6, hc7, hc8, hc9, hc10, hc13, hc15, hc17, hc20, hc21, hc25, hc26, hc28, hc29, if_false]) ?_
                                      cases h
                                      exact fj_rv rfl rfl
/-- X5_perform -/
def dm_64 (a1 : Nat) (a2 : Int32) (a3 : Int32) (M : fj_M) : Option fj_M := (if 19 < a2 then (if 23 < a2 then (if 27 < a2 then ((dm_3 a2 M).bind fun q4 => (if q4.1 = 0 then (if a2 = 28 then ((dm_12 a1 q4.2).bind fun q7 => ((dm_44 a3 q7.1 q7.2).bind fun q8 => ((dm_11 a1 q8.1 q8.2).bind fun q9 => some q9))) else (if a2 = 40 then ((dm_12 a1 q4.2).bind fun q11 => ((dm_62 q11.1 9 q11.2).bind fun q12 => some q12)) else ((dm_74 a1 a2 a3 q4.2).bind fun q13 => some q13))) else ((dm_70 a1 a2 a3 q4.2).bind fun q14 => some q14))) else ((dm_69 a1 a2 a3 M).bind fun q15 => some q15)) else ((dm_68 a1 a2 a3 M).bind fun q16 => some q16)) else ((dm_65 a1 a2 a3 M).bind fun q17 => some q17))
set_option maxRecDepth 40000 in
theorem de_64 (X : fj_X) (a1 : Nat) (a2 : Int32) (a3 : Int32) (M : fj_M) (r : fj_M) (h : dm_64 a1 a2 a3 M = some r) : fj_ev X (64, 0, [some (.inr (0, 0)), some (.inr (7, a1)), some (.inl a2), some (.inl a3)], [], M) (none, r) := by
    unfold dm_64 at h
    refine fj_blk 2 (64, 3, [some (.inr (0, 0)), some (.inr (7, a1)), some (.inl a2), some (.inl a3)], [(.inl 19), (.inl a2)], M) rfl ?_
    by_cases hc1 : 19 < a2
    · rw [if_pos hc1] at h
      refine fj_bt rfl (decide_eq_true hc1) ?_
      refine fj_blk 2 (64, 18, [some (.inr (0, 0)), some (.inr (7, a1)), some (.inl a2), some (.inl a3)], [(.inl 23), (.inl a2)], M) rfl ?_
      by_cases hc2 : 23 < a2
      · rw [if_pos hc2] at h
        refine fj_bt rfl (decide_eq_true hc2) ?_
        refine fj_blk 2 (64, 33, [some (.inr (0, 0)), some (.inr (7, a1)), some (.inl a2), some (.inl a3)], [(.inl 27), (.inl a2)], M) rfl ?_
        by_cases hc3 : 27 < a2
        · rw [if_pos hc3] at h
          refine fj_bt rfl (decide_eq_true hc3) ?_
          refine fj_blk 1 (64, 47, [some (.inr (0, 0)), some (.inr (7, a1)), some (.inl a2), some (.inl a3)], [(.inl a2)], M) rfl ?_
          cases hq4 : dm_3 a2 M with
          | none => rw [hq4] at h; cases h
          | some q4 =>
            rw [hq4, Option.bind_some] at h
            refine fj_cl rfl (de_3 X a2 M _ hq4) ?_
            by_cases hc5 : q4.1 = 0
            · rw [if_pos hc5] at h
              refine fj_bt rfl (decide_eq_true hc5) ?_
              refine fj_blk 2 (64, 66, [some (.inr (0, 0)), some (.inr (7, a1)), some (.inl a2), some (.inl a3)], [(.inl 28), (.inl a2)], q4.2) rfl ?_
              by_cases hc6 : a2 = 28
              · rw [if_pos hc6] at h
                refine fj_bf rfl (fj_nf hc6) ?_
                refine fj_blk 4 (64, 73, [some (.inr (0, 0)), some (.inr (7, a1)), some (.inl a2), some (.inl a3)], [(.inr (7, a1)), (.inl a3), (.inr (0, 0)), (.inr (7, a1))], q4.2) rfl ?_
                cases hq7 : dm_12 a1 q4.2 with
                | none => rw [hq7] at h; cases h
                | some q7 =>
                  rw [hq7, Option.bind_some] at h
                  refine fj_cl rfl (de_12 X a1 q4.2 _ hq7) ?_
                  cases hq8 : dm_44 a3 q7.1 q7.2 with
                  | none => rw [hq8] at h; cases h
                  | some q8 =>
                    rw [hq8, Option.bind_some] at h
                    refine fj_cl rfl (de_44 X a3 q7.1 q7.2 _ hq8) ?_
                    cases hq9 : dm_11 a1 q8.1 q8.2 with
                    | none => rw [hq9] at h; cases h
                    | some q9 =>
                      rw [hq9, Option.bind_some] at h
                      refine fj_cl rfl (de_11 X a1 q8.1 q8.2 _ hq9) ?_
                      refine fj_blk 1 (64, 111, [some (.inr (0, 0)), some (.inr (7, a1)), some (.inl a2), some (.inl a3)], [], q9) rfl ?_
                      cases h
                      exact fj_rv rfl rfl
              · rw [if_neg hc6] at h
                refine fj_bt rfl (fj_nt hc6) ?_
                refine fj_blk 2 (64, 88, [some (.inr (0, 0)), some (.inr (7, a1)), some (.inl a2), some (.inl a3)], [(.inl 40), (.inl a2)], q4.2) rfl ?_
                by_cases hc10 : a2 = 40
                · rw [if_pos hc10] at h
                  refine fj_bf rfl (fj_nf hc10) ?_
                  refine fj_blk 2 (64, 93, [some (.inr (0, 0)), some (.inr (7, a1)), some (.inl a2), some (.inl a3)], [(.inr (7, a1)), (.inr (0, 0))], q4.2) rfl ?_
                  cases hq11 : dm_12 a1 q4.2 with
                  | none => rw [hq11] at h; cases h
                  | some q11 =>
                    rw [hq11, Option.bind_some] at h
                    refine fj_cl rfl (de_12 X a1 q4.2 _ hq11) ?_
                    refine fj_blk 1 (64, 98, [some (.inr (0, 0)), some (.inr (7, a1)), some (.inl a2), some (.inl a3)], [(.inl 9), (.inl q11.1), (.inr (0, 0))], q11.2) rfl ?_
                    cases hq12 : dm_62 q11.1 9 q11.2 with
                    | none => rw [hq12] at h; cases h
                    | some q12 =>
                      rw [hq12, Option.bind_some] at h
                      refine fj_cl rfl (de_62 X q11.1 9 q11.2 _ hq12) ?_
                      refine fj_blk 1 (64, 111, [some (.inr (0, 0)), some (.inr (7, a1)), some (.inl a2), some (.inl a3)], [], q12) rfl ?_
                      cases h
                      exact fj_rv rfl rfl
                · rw [if_neg hc10] at h
                  refine fj_bt rfl (fj_nt hc10) ?_
                  refine fj_blk 4 (64, 108, [some (.inr (0, 0)), some (.inr (7, a1)), some (.inl a2), some (.inl a3)], [(.inl a3), (.inl a2), (.inr (7, a1)), (.inr (0, 0))], q4.2) rfl ?_
                  cases hq13 : dm_74 a1 a2 a3 q4.2 with
                  | none => rw [hq13] at h; cases h
                  | some q13 =>
                    rw [hq13, Option.bind_some] at h
                    refine fj_cl rfl (de_74 X a1 a2 a3 q4.2 _ hq13) ?_
                    cases h
                    exact fj_rv rfl rfl
            · rw [if_neg hc5] at h
              refine fj_bf rfl (decide_eq_false hc5) ?_
              refine fj_blk 4 (64, 57, [some (.inr (0, 0)), some (.inr (7, a1)), some (.inl a2), some (.inl a3)], [(.inl a3), (.inl a2), (.inr (7, a1)), (.inr (0, 0))], q4.2) rfl ?_
              cases hq14 : dm_70 a1 a2 a3 q4.2 with
              | none => rw [hq14] at h; cases h
              | some q14 =>
                rw [hq14, Option.bind_some] at h
                refine fj_cl rfl (de_70 X a1 a2 a3 q4.2 _ hq14) ?_
                refine fj_blk 1 (64, 111, [some (.inr (0, 0)), some (.inr (7, a1)), some (.inl a2), some (.inl a3)], [], q14) rfl ?_
                cases h
                exact fj_rv rfl rfl
        · rw [if_neg hc3] at h
          refine fj_bf rfl (decide_eq_false hc3) ?_
          refine fj_blk 4 (64, 40, [some (.inr (0, 0)), some (.inr (7, a1)), some (.inl a2), some (.inl a3)], [(.inl a3), (.inl a2), (.inr (7, a1)), (.inr (0, 0))], M) rfl ?_
          cases hq15 : dm_69 a1 a2 a3 M with
          | none => rw [hq15] at h; cases h
          | some q15 =>
            rw [hq15, Option.bind_some] at h
            refine fj_cl rfl (de_69 X a1 a2 a3 M _ hq15) ?_
            refine fj_blk 1 (64, 111, [some (.inr (0, 0)), some (.inr (7, a1)), some (.inl a2), some (.inl a3)], [], q15) rfl ?_
            cases h
            exact fj_rv rfl rfl
      · rw [if_neg hc2] at h
        refine fj_bf rfl (decide_eq_false hc2) ?_
        refine fj_blk 3 (64, 24, [some (.inr (0, 0)), some (.inr (7, a1)), some (.inl a2), some (.inl a3)], [(.inl a3), (.inl a2), (.inr (7, a1))], M) rfl ?_
        cases hq16 : dm_68 a1 a2 a3 M with
        | none => rw [hq16] at h; cases h
        | some q16 =>
          rw [hq16, Option.bind_some] at h
          refine fj_cl rfl (de_68 X a1 a2 a3 M _ hq16) ?_
          refine fj_blk 1 (64, 111, [some (.inr (0, 0)), some (.inr (7, a1)), some (.inl a2), some (.inl a3)], [], q16) rfl ?_
          cases h
          exact fj_rv rfl rfl
    · rw [if_neg hc1] at h
      refine fj_bf rfl (decide_eq_false hc1) ?_
      refine fj_blk 3 (64, 9, [some (.inr (0, 0)), some (.inr (7, a1)), some (.inl a2), some (.inl a3)], [(.inl a3), (.inl a2), (.inr (7, a1))], M) rfl ?_
      cases hq17 : dm_65 a1 a2 a3 M with
      | none => rw [hq17] at h; cases h
      | some q17 =>
        rw [hq17, Option.bind_some] at h
        refine fj_cl rfl (de_65 X a1 a2 a3 M _ hq17) ?_
        refine fj_blk 1 (64, 111, [some (.inr (0, 0)), some (.inr (7, a1)), some (.inl a2), some (.inl a3)], [], q17) rfl ?_
        cases h
        exact fj_rv rfl rfl
/-- X5_doOp -/
def dm_52  (M : fj_M) : Option fj_M := (if (M.1 0 0 8) < 0 ∨ 12 ≤ (M.1 0 0 8).toNatClampNeg then none else ((dm_35 (M.1 7 ((M.1 0 0 8).toNatClampNeg) 3) M).bind fun q2 => (if q2.1 = 0 then ((dm_62 (q2.2.1 0 0 8) 1 q2.2).bind fun q4 => some q4) else (if (q2.2.1 7 ((M.1 0 0 8).toNatClampNeg) 3) < 0 ∨ 512 ≤ (q2.2.1 7 ((M.1 0 0 8).toNatClampNeg) 3).toNatClampNeg then none else (if (q2.2.1 7 ((M.1 0 0 8).toNatClampNeg) 3) < 0 ∨ 512 ≤ (q2.2.1 7 ((M.1 0 0 8).toNatClampNeg) 3).toNatClampNeg then none else ((dm_54 ((M.1 0 0 8).toNatClampNeg) ((q2.2.1 1 0 ((q2.2.1 7 ((M.1 0 0 8).toNatClampNeg) 3).toNatClampNeg)) &&& 255) ((q2.2.1 1 0 ((q2.2.1 7 ((M.1 0 0 8).toNatClampNeg) 3).toNatClampNeg)) >>> (8 &&& 31)) q2.2).bind fun q7 => (if q7.1 = 0 then ((dm_53 ((M.1 0 0 8).toNatClampNeg) ((q2.2.1 1 0 ((q2.2.1 7 ((M.1 0 0 8).toNatClampNeg) 3).toNatClampNeg)) &&& 255) ((q2.2.1 1 0 ((q2.2.1 7 ((M.1 0 0 8).toNatClampNeg) 3).toNatClampNeg)) >>> (8 &&& 31)) q7.2).bind fun q9 => (if q9.1 = 0 then ((dm_64 ((M.1 0 0 8).toNatClampNeg) ((q2.2.1 1 0 ((q2.2.1 7 ((M.1 0 0 8).toNatClampNeg) 3).toNatClampNeg)) &&& 255) ((q2.2.1 1 0 ((q2.2.1 7 ((M.1 0 0 8).toNatClampNeg) 3).toNatClampNeg)) >>> (8 &&& 31)) ((fj_u1 q9.2.1 7 ((M.1 0 0 8).toNatClampNeg) 3 ((q9.2.1 7 ((M.1 0 0 8).toNatClampNeg) 3) + 1)), q9.2.2)).bind fun q11 => some q11) else some q9.2)) else ((dm_62 (q7.2.1 0 0 8) q7.1 q7.2).bind fun q12 => some q12))))))))
set_option maxRecDepth 40000 in
theorem de_52 (X : fj_X)  (M : fj_M) (r : fj_M) (h : dm_52  M = some r) : fj_ev X (52, 0, [some (.inr (0, 0)), none, none, none, none], [], M) (none, r) := by
    unfold dm_52 at h
    refine fj_blk 4 (52, 8, [some (.inr (0, 0)), none, none, none, none], [(.inl (M.1 0 0 8)), (.inr (4, 0))], M) rfl ?_
    by_cases hc1 : (M.1 0 0 8) < 0 ∨ 12 ≤ (M.1 0 0 8).toNatClampNeg
    · rw [if_pos hc1] at h
      cases h
    rw [if_neg hc1] at h
    refine fj_aal rfl rfl hc1 ?_
    refine fj_blk 3 (52, 14, [some (.inr (0, 0)), some (.inr (7, (M.1 0 0 8).toNatClampNeg)), none, none, none], [(.inl (M.1 7 ((M.1 0 0 8).toNatClampNeg) 3))], M) rfl ?_
    cases hq2 : dm_35 (M.1 7 ((M.1 0 0 8).toNatClampNeg) 3) M with
    | none => rw [hq2] at h; cases h
    | some q2 =>
      rw [hq2, Option.bind_some] at h
      refine fj_cl rfl (de_35 X (M.1 7 ((M.1 0 0 8).toNatClampNeg) 3) M _ hq2) ?_
      by_cases hc3 : q2.1 = 0
      · rw [if_pos hc3] at h
        refine fj_bf rfl (fj_nf hc3) ?_
        refine fj_blk 4 (52, 26, [some (.inr (0, 0)), some (.inr (7, (M.1 0 0 8).toNatClampNeg)), none, none, none], [(.inl 1), (.inl (q2.2.1 0 0 8)), (.inr (0, 0))], q2.2) rfl ?_
        cases hq4 : dm_62 (q2.2.1 0 0 8) 1 q2.2 with
        | none => rw [hq4] at h; cases h
        | some q4 =>
          rw [hq4, Option.bind_some] at h
          refine fj_cl rfl (de_62 X (q2.2.1 0 0 8) 1 q2.2 _ hq4) ?_
          cases h
          exact fj_rv rfl rfl
      · rw [if_neg hc3] at h
        refine fj_bt rfl (fj_nt hc3) ?_
        refine fj_blk 4 (52, 38, [some (.inr (0, 0)), some (.inr (7, (M.1 0 0 8).toNatClampNeg)), none, none, none], [(.inl (q2.2.1 7 ((M.1 0 0 8).toNatClampNeg) 3)), (.inr (1, 0))], q2.2) rfl ?_
        by_cases hc5 : (q2.2.1 7 ((M.1 0 0 8).toNatClampNeg) 3) < 0 ∨ 512 ≤ (q2.2.1 7 ((M.1 0 0 8).toNatClampNeg) 3).toNatClampNeg
        · rw [if_pos hc5] at h
          cases h
        rw [if_neg hc5] at h
        refine fj_ald rfl rfl hc5 ?_
        refine fj_blk 7 (52, 52, [some (.inr (0, 0)), some (.inr (7, (M.1 0 0 8).toNatClampNeg)), some (.inl ((q2.2.1 1 0 ((q2.2.1 7 ((M.1 0 0 8).toNatClampNeg) 3).toNatClampNeg)) &&& 255)), none, none], [(.inl (q2.2.1 7 ((M.1 0 0 8).toNatClampNeg) 3)), (.inr (1, 0))], q2.2) rfl ?_
        by_cases hc6 : (q2.2.1 7 ((M.1 0 0 8).toNatClampNeg) 3) < 0 ∨ 512 ≤ (q2.2.1 7 ((M.1 0 0 8).toNatClampNeg) 3).toNatClampNeg
        · rw [if_pos hc6] at h
          cases h
        rw [if_neg hc6] at h
        refine fj_ald rfl rfl hc6 ?_
        refine fj_blk 7 (52, 61, [some (.inr (0, 0)), some (.inr (7, (M.1 0 0 8).toNatClampNeg)), some (.inl ((q2.2.1 1 0 ((q2.2.1 7 ((M.1 0 0 8).toNatClampNeg) 3).toNatClampNeg)) &&& 255)), some (.inl ((q2.2.1 1 0 ((q2.2.1 7 ((M.1 0 0 8).toNatClampNeg) 3).toNatClampNeg)) >>> (8 &&& 31))), none], [(.inl ((q2.2.1 1 0 ((q2.2.1 7 ((M.1 0 0 8).toNatClampNeg) 3).toNatClampNeg)) >>> (8 &&& 31))), (.inl ((q2.2.1 1 0 ((q2.2.1 7 ((M.1 0 0 8).toNatClampNeg) 3).toNatClampNeg)) &&& 255)), (.inr (7, (M.1 0 0 8).toNatClampNeg)), (.inr (0, 0))], q2.2) rfl ?_
        cases hq7 : dm_54 ((M.1 0 0 8).toNatClampNeg) ((q2.2.1 1 0 ((q2.2.1 7 ((M.1 0 0 8).toNatClampNeg) 3).toNatClampNeg)) &&& 255) ((q2.2.1 1 0 ((q2.2.1 7 ((M.1 0 0 8).toNatClampNeg) 3).toNatClampNeg)) >>> (8 &&& 31)) q2.2 with
        | none => rw [hq7] at h; cases h
        | some q7 =>
          rw [hq7, Option.bind_some] at h
          refine fj_cl rfl (de_54 X ((M.1 0 0 8).toNatClampNeg) ((q2.2.1 1 0 ((q2.2.1 7 ((M.1 0 0 8).toNatClampNeg) 3).toNatClampNeg)) &&& 255) ((q2.2.1 1 0 ((q2.2.1 7 ((M.1 0 0 8).toNatClampNeg) 3).toNatClampNeg)) >>> (8 &&& 31)) q2.2 _ hq7) ?_
          refine fj_blk 2 (52, 68, [some (.inr (0, 0)), some (.inr (7, (M.1 0 0 8).toNatClampNeg)), some (.inl ((q2.2.1 1 0 ((q2.2.1 7 ((M.1 0 0 8).toNatClampNeg) 3).toNatClampNeg)) &&& 255)), some (.inl ((q2.2.1 1 0 ((q2.2.1 7 ((M.1 0 0 8).toNatClampNeg) 3).toNatClampNeg)) >>> (8 &&& 31))), some (.inl q7.1)], [(.inl q7.1)], q7.2) rfl ?_
          by_cases hc8 : q7.1 = 0
          · rw [if_pos hc8] at h
            refine fj_bt rfl (decide_eq_true hc8) ?_
            refine fj_blk 4 (52, 88, [some (.inr (0, 0)), some (.inr (7, (M.1 0 0 8).toNatClampNeg)), some (.inl ((q2.2.1 1 0 ((q2.2.1 7 ((M.1 0 0 8).toNatClampNeg) 3).toNatClampNeg)) &&& 255)), some (.inl ((q2.2.1 1 0 ((q2.2.1 7 ((M.1 0 0 8).toNatClampNeg) 3).toNatClampNeg)) >>> (8 &&& 31))), some (.inl q7.1)], [(.inl ((q2.2.1 1 0 ((q2.2.1 7 ((M.1 0 0 8).toNatClampNeg) 3).toNatClampNeg)) >>> (8 &&& 31))), (.inl ((q2.2.1 1 0 ((q2.2.1 7 ((M.1 0 0 8).toNatClampNeg) 3).toNatClampNeg)) &&& 255)), (.inr (7, (M.1 0 0 8).toNatClampNeg)), (.inr (0, 0))], q7.2) rfl ?_
            cases hq9 : dm_53 ((M.1 0 0 8).toNatClampNeg) ((q2.2.1 1 0 ((q2.2.1 7 ((M.1 0 0 8).toNatClampNeg) 3).toNatClampNeg)) &&& 255) ((q2.2.1 1 0 ((q2.2.1 7 ((M.1 0 0 8).toNatClampNeg) 3).toNatClampNeg)) >>> (8 &&& 31)) q7.2 with
            | none => rw [hq9] at h; cases h
            | some q9 =>
              rw [hq9, Option.bind_some] at h
              refine fj_cl rfl (de_53 X ((M.1 0 0 8).toNatClampNeg) ((q2.2.1 1 0 ((q2.2.1 7 ((M.1 0 0 8).toNatClampNeg) 3).toNatClampNeg)) &&& 255) ((q2.2.1 1 0 ((q2.2.1 7 ((M.1 0 0 8).toNatClampNeg) 3).toNatClampNeg)) >>> (8 &&& 31)) q7.2 _ hq9) ?_
              by_cases hc10 : q9.1 = 0
              · rw [if_pos hc10] at h
                refine fj_bf rfl (fj_nf hc10) ?_
                refine fj_blk 10 (52, 108, [some (.inr (0, 0)), some (.inr (7, (M.1 0 0 8).toNatClampNeg)), some (.inl ((q2.2.1 1 0 ((q2.2.1 7 ((M.1 0 0 8).toNatClampNeg) 3).toNatClampNeg)) &&& 255)), some (.inl ((q2.2.1 1 0 ((q2.2.1 7 ((M.1 0 0 8).toNatClampNeg) 3).toNatClampNeg)) >>> (8 &&& 31))), some (.inl q7.1)], [(.inl ((q2.2.1 1 0 ((q2.2.1 7 ((M.1 0 0 8).toNatClampNeg) 3).toNatClampNeg)) >>> (8 &&& 31))), (.inl ((q2.2.1 1 0 ((q2.2.1 7 ((M.1 0 0 8).toNatClampNeg) 3).toNatClampNeg)) &&& 255)), (.inr (7, (M.1 0 0 8).toNatClampNeg)), (.inr (0, 0))], ((fj_u1 q9.2.1 7 ((M.1 0 0 8).toNatClampNeg) 3 ((q9.2.1 7 ((M.1 0 0 8).toNatClampNeg) 3) + 1)), q9.2.2)) rfl ?_
                cases hq11 : dm_64 ((M.1 0 0 8).toNatClampNeg) ((q2.2.1 1 0 ((q2.2.1 7 ((M.1 0 0 8).toNatClampNeg) 3).toNatClampNeg)) &&& 255) ((q2.2.1 1 0 ((q2.2.1 7 ((M.1 0 0 8).toNatClampNeg) 3).toNatClampNeg)) >>> (8 &&& 31)) ((fj_u1 q9.2.1 7 ((M.1 0 0 8).toNatClampNeg) 3 ((q9.2.1 7 ((M.1 0 0 8).toNatClampNeg) 3) + 1)), q9.2.2) with
                | none => rw [hq11] at h; cases h
                | some q11 =>
                  rw [hq11, Option.bind_some] at h
                  refine fj_cl rfl (de_64 X ((M.1 0 0 8).toNatClampNeg) ((q2.2.1 1 0 ((q2.2.1 7 ((M.1 0 0 8).toNatClampNeg) 3).toNatClampNeg)) &&& 255) ((q2.2.1 1 0 ((q2.2.1 7 ((M.1 0 0 8).toNatClampNeg) 3).toNatClampNeg)) >>> (8 &&& 31)) ((fj_u1 q9.2.1 7 ((M.1 0 0 8).toNatClampNeg) 3 ((q9.2.1 7 ((M.1 0 0 8).toNatClampNeg) 3) + 1)), q9.2.2) _ hq11) ?_
                  cases h
                  exact fj_rv rfl rfl
              · rw [if_neg hc10] at h
                refine fj_bt rfl (fj_nt hc10) ?_
                cases h
                exact fj_rv rfl rfl
          · rw [if_neg hc8] at h
            refine fj_bf rfl (decide_eq_false hc8) ?_
            refine fj_blk 4 (52, 78, [some (.inr (0, 0)), some (.inr (7, (M.1 0 0 8).toNatClampNeg)), some (.inl ((q2.2.1 1 0 ((q2.2.1 7 ((M.1 0 0 8).toNatClampNeg) 3).toNatClampNeg)) &&& 255)), some (.inl ((q2.2.1 1 0 ((q2.2.1 7 ((M.1 0 0 8).toNatClampNeg) 3).toNatClampNeg)) >>> (8 &&& 31))), some (.inl q7.1)], [(.inl q7.1), (.inl (q7.2.1 0 0 8)), (.inr (0, 0))], q7.2) rfl ?_
            cases hq12 : dm_62 (q7.2.1 0 0 8) q7.1 q7.2 with
            | none => rw [hq12] at h; cases h
            | some q12 =>
              rw [hq12, Option.bind_some] at h
              refine fj_cl rfl (de_62 X (q7.2.1 0 0 8) q7.1 q7.2 _ hq12) ?_
              refine fj_blk 1 (52, 111, [some (.inr (0, 0)), some (.inr (7, (M.1 0 0 8).toNatClampNeg)), some (.inl ((q2.2.1 1 0 ((q2.2.1 7 ((M.1 0 0 8).toNatClampNeg) 3).toNatClampNeg)) &&& 255)), some (.inl ((q2.2.1 1 0 ((q2.2.1 7 ((M.1 0 0 8).toNatClampNeg) 3).toNatClampNeg)) >>> (8 &&& 31))), some (.inl q7.1)], [], q12) rfl ?_
              cases h
              exact fj_rv rfl rfl
def dm_49_63   (M : fj_M) : Option (Int32 × fj_M) := some ((fj_u1 M.1 0 0 10 ((M.1 0 0 10) + 1)) 0 0 7, ((fj_u1 M.1 0 0 10 ((M.1 0 0 10) + 1)), M.2))
set_option maxRecDepth 40000 in
theorem de_49_63 (X : fj_X)  (M : fj_M) (r : (Int32 × fj_M)) (h : dm_49_63  M = some r) : fj_ev X (49, 63, [some (.inr (0, 0))], [], M) (some r.1, r.2) := by
    unfold dm_49_63 at h
    refine fj_blk 8 (49, 77, [some (.inr (0, 0))], [(.inl ((fj_u1 M.1 0 0 10 ((M.1 0 0 10) + 1)) 0 0 7))], ((fj_u1 M.1 0 0 10 ((M.1 0 0 10) + 1)), M.2)) rfl ?_
    cases h
    exact fj_ri rfl rfl
def dm_49_48   (M : fj_M) : Option (Int32 × fj_M) := (if (M.1 0 0 7) = 0 then dm_49_63 M else (if (M.1 0 0 7) = 1 then dm_49_63 M else some (M.1 0 0 7, M)))
set_option maxRecDepth 40000 in
theorem de_49_48 (X : fj_X)  (M : fj_M) (r : (Int32 × fj_M)) (h : dm_49_48  M = some r) : fj_ev X (49, 48, [some (.inr (0, 0))], [], M) (some r.1, r.2) := by
    unfold dm_49_48 at h
    refine fj_blk 2 (49, 52, [some (.inr (0, 0))], [(.inl (M.1 0 0 7))], M) rfl ?_
    by_cases hc1 : (M.1 0 0 7) = 0
    · rw [if_pos hc1] at h
      refine fj_bt rfl (decide_eq_true hc1) ?_
      exact de_49_63 X M r h
    · rw [if_neg hc1] at h
      refine fj_bf rfl (decide_eq_false hc1) ?_
      refine fj_blk 3 (49, 60, [some (.inr (0, 0))], [(.inl 1), (.inl (M.1 0 0 7))], M) rfl ?_
      by_cases hc2 : (M.1 0 0 7) = 1
      · rw [if_pos hc2] at h
        refine fj_bf rfl (fj_nf hc2) ?_
        exact de_49_63 X M r h
      · rw [if_neg hc2] at h
        refine fj_bt rfl (fj_nt hc2) ?_
        refine fj_blk 2 (49, 77, [some (.inr (0, 0))], [(.inl (M.1 0 0 7))], M) rfl ?_
        cases h
        exact fj_ri rfl rfl
def dm_49_20  (s0 : Int32) (M : fj_M) : Option (Int32 × fj_M) := (if ((fj_u1 M.1 0 0 7 s0) 0 0 7) = 0 then ((dm_52 ((fj_u1 (fj_u1 M.1 0 0 7 s0) 0 0 9 (((fj_u1 M.1 0 0 7 s0) 0 0 9) - 1)), M.2)).bind fun q2 => ((dm_47 q2).bind fun q3 => dm_49_48 q3)) else dm_49_48 ((fj_u1 M.1 0 0 7 s0), M.2))
set_option maxRecDepth 40000 in
theorem de_49_20 (X : fj_X) (s0 : Int32) (M : fj_M) (r : (Int32 × fj_M)) (h : dm_49_20 s0 M = some r) : fj_ev X (49, 20, [some (.inr (0, 0))], [(.inl s0), (.inr (0, 0))], M) (some r.1, r.2) := by
    unfold dm_49_20 at h
    refine fj_blk 3 (49, 27, [some (.inr (0, 0))], [(.inl ((fj_u1 M.1 0 0 7 s0) 0 0 7))], ((fj_u1 M.1 0 0 7 s0), M.2)) rfl ?_
    by_cases hc1 : ((fj_u1 M.1 0 0 7 s0) 0 0 7) = 0
    · rw [if_pos hc1] at h
      refine fj_bf rfl (fj_nf hc1) ?_
      refine fj_blk 7 (49, 41, [some (.inr (0, 0))], [(.inr (0, 0))], ((fj_u1 (fj_u1 M.1 0 0 7 s0) 0 0 9 (((fj_u1 M.1 0 0 7 s0) 0 0 9) - 1)), M.2)) rfl ?_
      cases hq2 : dm_52 ((fj_u1 (fj_u1 M.1 0 0 7 s0) 0 0 9 (((fj_u1 M.1 0 0 7 s0) 0 0 9) - 1)), M.2) with
      | none => rw [hq2] at h; cases h
      | some q2 =>
        rw [hq2, Option.bind_some] at h
        refine fj_cl rfl (de_52 X ((fj_u1 (fj_u1 M.1 0 0 7 s0) 0 0 9 (((fj_u1 M.1 0 0 7 s0) 0 0 9) - 1)), M.2) _ hq2) ?_
        refine fj_blk 1 (49, 45, [some (.inr (0, 0))], [(.inr (0, 0))], q2) rfl ?_
        cases hq3 : dm_47 q2 with
        | none => rw [hq3] at h; cases h
        | some q3 =>
          rw [hq3, Option.bind_some] at h
          refine fj_cl rfl (de_47 X q2 _ hq3) ?_
          exact de_49_48 X q3 r h
    · rw [if_neg hc1] at h
      refine fj_bt rfl (fj_nt hc1) ?_
      exact de_49_48 X ((fj_u1 M.1 0 0 7 s0), M.2) r h
/-- X5_advance -/
def dm_49  (M : fj_M) : Option (Int32 × fj_M) := ((dm_46 M).bind fun q1 => ((dm_50 q1).bind fun q2 => (if q2.1 = 0 then ((dm_51 q2.2).bind fun q4 => dm_49_20 q4.1 q4.2) else dm_49_20 0 q2.2)))
set_option maxRecDepth 40000 in
theorem de_49 (X : fj_X)  (M : fj_M) (r : (Int32 × fj_M)) (h : dm_49  M = some r) : fj_ev X (49, 0, [some (.inr (0, 0))], [], M) (some r.1, r.2) := by
    unfold dm_49 at h
    refine fj_blk 1 (49, 1, [some (.inr (0, 0))], [(.inr (0, 0))], M) rfl ?_
    cases hq1 : dm_46 M with
    | none => rw [hq1] at h; cases h
    | some q1 =>
      rw [hq1, Option.bind_some] at h
      refine fj_cl rfl (de_46 X M _ hq1) ?_
      refine fj_blk 2 (49, 6, [some (.inr (0, 0))], [(.inr (0, 0)), (.inr (0, 0))], q1) rfl ?_
      cases hq2 : dm_50 q1 with
      | none => rw [hq2] at h; cases h
      | some q2 =>
        rw [hq2, Option.bind_some] at h
        refine fj_cl rfl (de_50 X q1 _ hq2) ?_
        by_cases hc3 : q2.1 = 0
        · rw [if_pos hc3] at h
          refine fj_bt rfl (decide_eq_true hc3) ?_
          refine fj_blk 1 (49, 17, [some (.inr (0, 0))], [(.inr (0, 0)), (.inr (0, 0))], q2.2) rfl ?_
          cases hq4 : dm_51 q2.2 with
          | none => rw [hq4] at h; cases h
          | some q4 =>
            rw [hq4, Option.bind_some] at h
            refine fj_cl rfl (de_51 X q2.2 _ hq4) ?_
            exact de_49_20 X q4.1 q4.2 r h
        · rw [if_neg hc3] at h
          refine fj_bf rfl (decide_eq_false hc3) ?_
          refine fj_blk 2 (49, 20, [some (.inr (0, 0))], [(.inl 0), (.inr (0, 0))], q2.2) rfl ?_
          exact de_49_20 X 0 q2.2 r h
/-- X5_step -/
def dm_24  (M : fj_M) : Option (Int32 × fj_M) := ((dm_49 M).bind fun q1 => some (q1.1, q1.2))
set_option maxRecDepth 40000 in
theorem de_24 (X : fj_X)  (M : fj_M) (r : (Int32 × fj_M)) (h : dm_24  M = some r) : fj_ev X (24, 0, [some (.inr (0, 0))], [], M) (some r.1, r.2) := by
    unfold dm_24 at h
    refine fj_blk 1 (24, 1, [some (.inr (0, 0))], [(.inr (0, 0))], M) rfl ?_
    cases hq1 : dm_49 M with
    | none => rw [hq1] at h; cases h
    | some q1 =>
      rw [hq1, Option.bind_some] at h
      refine fj_cl rfl (de_49 X M _ hq1) ?_
      cases h
      exact fj_ri rfl rfl
def dm_25_16  : Nat → Int32 → Int32 → Option fj_V → fj_M → Option (Int32 × fj_M)
  | 0, _, _, _, _ => none
  | n + 1, a1, a2, o3, M => (if a1 ≤ a2 then some (a1, M) else ((dm_49 M).bind fun q2 => (if q2.1 = 2 then some (a2, q2.2) else (if q2.1 = 3 then some (a2, q2.2) else dm_25_16 n a1 (a2 + 1) (some (.inl q2.1)) q2.2))))
set_option maxRecDepth 40000 in
theorem de_25_16 (X : fj_X) : ∀ (n : Nat) (a1 : Int32) (a2 : Int32) (o3 : Option fj_V) (M : fj_M) (r : (Int32 × fj_M)), dm_25_16 n a1 a2 o3 M = some r → fj_ev X (25, 16, [some (.inr (0, 0)), some (.inl a1), some (.inl a2), o3], [], M) (some r.1, r.2)
  | 0, _, _, _, _, r, h => by cases h
  | n + 1, a1, a2, o3, M, r, h => by
    unfold dm_25_16 at h
    refine fj_blk 2 (25, 18, [some (.inr (0, 0)), some (.inl a1), some (.inl a2), o3], [(.inl a1), (.inl a2)], M) rfl ?_
    by_cases hc1 : a1 ≤ a2
    · rw [if_pos hc1] at h
      refine fj_bt rfl (decide_eq_true hc1) ?_
      refine fj_blk 1 (25, 45, [some (.inr (0, 0)), some (.inl a1), some (.inl a2), o3], [(.inl a1)], M) rfl ?_
      cases h
      exact fj_ri rfl rfl
    · rw [if_neg hc1] at h
      refine fj_bf rfl (decide_eq_false hc1) ?_
      refine fj_blk 1 (25, 22, [some (.inr (0, 0)), some (.inl a1), some (.inl a2), o3], [(.inr (0, 0))], M) rfl ?_
      cases hq2 : dm_49 M with
      | none => rw [hq2] at h; cases h
      | some q2 =>
        rw [hq2, Option.bind_some] at h
        refine fj_cl rfl (de_49 X M _ hq2) ?_
        refine fj_blk 3 (25, 28, [some (.inr (0, 0)), some (.inl a1), some (.inl a2), some (.inl q2.1)], [(.inl 2), (.inl q2.1)], q2.2) rfl ?_
        by_cases hc3 : q2.1 = 2
        · rw [if_pos hc3] at h
          refine fj_bt rfl (decide_eq_true hc3) ?_
          refine fj_blk 1 (25, 37, [some (.inr (0, 0)), some (.inl a1), some (.inl a2), some (.inl q2.1)], [(.inl a2)], q2.2) rfl ?_
          cases h
          exact fj_ri rfl rfl
        · rw [if_neg hc3] at h
          refine fj_bf rfl (decide_eq_false hc3) ?_
          refine fj_blk 2 (25, 33, [some (.inr (0, 0)), some (.inl a1), some (.inl a2), some (.inl q2.1)], [(.inl 3), (.inl q2.1)], q2.2) rfl ?_
          by_cases hc4 : q2.1 = 3
          · rw [if_pos hc4] at h
            refine fj_bf rfl (fj_nf hc4) ?_
            refine fj_blk 1 (25, 37, [some (.inr (0, 0)), some (.inl a1), some (.inl a2), some (.inl q2.1)], [(.inl a2)], q2.2) rfl ?_
            cases h
            exact fj_ri rfl rfl
          · rw [if_neg hc4] at h
            refine fj_bt rfl (fj_nt hc4) ?_
            refine fj_blk 2 (25, 16, [some (.inr (0, 0)), some (.inl a1), some (.inl (a2 + 1)), some (.inl q2.1)], [], q2.2) rfl ?_
            exact de_25_16 X n a1 (a2 + 1) (some (.inl q2.1)) q2.2 r h
/-- X5_run -/
def dm_25 (a1 : Int32) (M : fj_M) : Option (Int32 × fj_M) := (if a1 < 0 then some ((-2), M) else (if a1 ≤ 5000 then dm_25_16 5001 a1 0 none M else some ((-2), M)))
set_option maxRecDepth 40000 in
theorem de_25 (X : fj_X) (a1 : Int32) (M : fj_M) (r : (Int32 × fj_M)) (h : dm_25 a1 M = some r) : fj_ev X (25, 0, [some (.inr (0, 0)), some (.inl a1), none, none], [], M) (some r.1, r.2) := by
    unfold dm_25 at h
    refine fj_blk 1 (25, 1, [some (.inr (0, 0)), some (.inl a1), none, none], [(.inl a1)], M) rfl ?_
    by_cases hc1 : a1 < 0
    · rw [if_pos hc1] at h
      refine fj_bt rfl (decide_eq_true hc1) ?_
      refine fj_blk 1 (25, 13, [some (.inr (0, 0)), some (.inl a1), none, none], [(.inl (-2))], M) rfl ?_
      cases h
      exact fj_ri rfl rfl
    · rw [if_neg hc1] at h
      refine fj_bf rfl (decide_eq_false hc1) ?_
      refine fj_blk 2 (25, 8, [some (.inr (0, 0)), some (.inl a1), none, none], [(.inl 5000), (.inl a1)], M) rfl ?_
      by_cases hc2 : a1 ≤ 5000
      · rw [if_pos hc2] at h
        refine fj_bt rfl (decide_eq_true hc2) ?_
        refine fj_blk 2 (25, 16, [some (.inr (0, 0)), some (.inl a1), some (.inl 0), none], [], M) rfl ?_
        exact de_25_16 X 5001 a1 0 none M r h
      · rw [if_neg hc2] at h
        refine fj_bf rfl (decide_eq_false hc2) ?_
        refine fj_blk 1 (25, 13, [some (.inr (0, 0)), some (.inl a1), none, none], [(.inl (-2))], M) rfl ?_
        cases h
        exact fj_ri rfl rfl
/-- X5_latest -/
def dm_26  (M : fj_M) : Option (Int32 × fj_M) := some (M.1 0 0 7, M)
set_option maxRecDepth 40000 in
theorem de_26 (X : fj_X)  (M : fj_M) (r : (Int32 × fj_M)) (h : dm_26  M = some r) : fj_ev X (26, 0, [some (.inr (0, 0))], [], M) (some r.1, r.2) := by
    unfold dm_26 at h
    refine fj_blk 2 (26, 4, [some (.inr (0, 0))], [(.inl (M.1 0 0 7))], M) rfl ?_
    cases h
    exact fj_ri rfl rfl
/-- X5_state -/
def dm_27 (a1 : Int32) (M : fj_M) : Option (Int32 × fj_M) := ((dm_37 a1 M).bind fun q1 => (if q1.1 = 0 then some ((-1), q1.2) else (if a1 < 0 ∨ 12 ≤ a1.toNatClampNeg then none else some (q1.2.1 7 a1.toNatClampNeg 2, q1.2))))
set_option maxRecDepth 40000 in
theorem de_27 (X : fj_X) (a1 : Int32) (M : fj_M) (r : (Int32 × fj_M)) (h : dm_27 a1 M = some r) : fj_ev X (27, 0, [some (.inr (0, 0)), some (.inl a1)], [], M) (some r.1, r.2) := by
    unfold dm_27 at h
    refine fj_blk 1 (27, 1, [some (.inr (0, 0)), some (.inl a1)], [(.inl a1)], M) rfl ?_
    cases hq1 : dm_37 a1 M with
    | none => rw [hq1] at h; cases h
    | some q1 =>
      rw [hq1, Option.bind_some] at h
      refine fj_cl rfl (de_37 X a1 M _ hq1) ?_
      by_cases hc2 : q1.1 = 0
      · rw [if_pos hc2] at h
        refine fj_bt rfl (decide_eq_true hc2) ?_
        refine fj_blk 1 (27, 20, [some (.inr (0, 0)), some (.inl a1)], [(.inl (-1))], q1.2) rfl ?_
        cases h
        exact fj_ri rfl rfl
      · rw [if_neg hc2] at h
        refine fj_bf rfl (decide_eq_false hc2) ?_
        refine fj_blk 3 (27, 12, [some (.inr (0, 0)), some (.inl a1)], [(.inl a1), (.inr (4, 0))], q1.2) rfl ?_
        by_cases hc3 : a1 < 0 ∨ 12 ≤ a1.toNatClampNeg
        · rw [if_pos hc3] at h
          cases h
        rw [if_neg hc3] at h
        refine fj_aal rfl rfl hc3 ?_
        refine fj_blk 2 (27, 20, [some (.inr (0, 0)), some (.inl a1)], [(.inl (q1.2.1 7 a1.toNatClampNeg 2))], q1.2) rfl ?_
        cases h
        exact fj_ri rfl rfl
/-- X5_about -/
def dm_28 (a1 : Int32) (a2 : Int32) (M : fj_M) : Option (Int32 × fj_M) := ((dm_37 a1 M).bind fun q1 => (if q1.1 = 0 then some ((-1000000001), q1.2) else (if a1 < 0 ∨ 12 ≤ a1.toNatClampNeg then none else (if a2 = 0 then some (q1.2.1 7 a1.toNatClampNeg 3, q1.2) else (if a2 = 1 then some (q1.2.1 7 a1.toNatClampNeg 4, q1.2) else (if a2 = 2 then some (q1.2.1 7 a1.toNatClampNeg 5, q1.2) else (if a2 = 3 then some (q1.2.1 7 a1.toNatClampNeg 6, q1.2) else (if a2 = 4 then some (q1.2.1 7 a1.toNatClampNeg 7, q1.2) else (if a2 = 5 then (if (q1.2.1 7 a1.toNatClampNeg 2) = 5 then some (q1.2.1 7 a1.toNatClampNeg 8, q1.2) else some (0, q1.2)) else (if a2 = 6 then some (q1.2.1 7 a1.toNatClampNeg 9, q1.2) else some ((-1000000001), q1.2)))))))))))
set_option maxRecDepth 40000 in
theorem de_28 (X : fj_X) (a1 : Int32) (a2 : Int32) (M : fj_M) (r : (Int32 × fj_M)) (h : dm_28 a1 a2 M = some r) : fj_ev X (28, 0, [some (.inr (0, 0)), some (.inl a1), some (.inl a2), none], [], M) (some r.1, r.2) := by
    unfold dm_28 at h
    refine fj_blk 1 (28, 1, [some (.inr (0, 0)), some (.inl a1), some (.inl a2), none], [(.inl a1)], M) rfl ?_
    cases hq1 : dm_37 a1 M with
    | none => rw [hq1] at h; cases h
    | some q1 =>
      rw [hq1, Option.bind_some] at h
      refine fj_cl rfl (de_37 X a1 M _ hq1) ?_
      by_cases hc2 : q1.1 = 0
      · rw [if_pos hc2] at h
        refine fj_bf rfl (fj_nf hc2) ?_
        refine fj_blk 1 (28, 9, [some (.inr (0, 0)), some (.inl a1), some (.inl a2), none], [(.inl (-1000000001))], q1.2) rfl ?_
        cases h
        exact fj_ri rfl rfl
      · rw [if_neg hc2] at h
        refine fj_bt rfl (fj_nt hc2) ?_
        refine fj_blk 3 (28, 15, [some (.inr (0, 0)), some (.inl a1), some (.inl a2), none], [(.inl a1), (.inr (4, 0))], q1.2) rfl ?_
        by_cases hc3 : a1 < 0 ∨ 12 ≤ a1.toNatClampNeg
        · rw [if_pos hc3] at h
          cases h
        rw [if_neg hc3] at h
        refine fj_aal rfl rfl hc3 ?_
        refine fj_blk 2 (28, 18, [some (.inr (0, 0)), some (.inl a1), some (.inl a2), some (.inr (7, a1.toNatClampNeg))], [(.inl a2)], q1.2) rfl ?_
        by_cases hc4 : a2 = 0
        · rw [if_pos hc4] at h
          refine fj_swg (t := 60) rfl (by rw [hc4]; rfl) ?_
          refine fj_blk 2 (28, 64, [some (.inr (0, 0)), some (.inl a1), some (.inl a2), some (.inr (7, a1.toNatClampNeg))], [(.inl (q1.2.1 7 a1.toNatClampNeg 3))], q1.2) rfl ?_
          cases h
          exact fj_ri rfl rfl
        · rw [if_neg hc4] at h
          by_cases hc5 : a2 = 1
          · rw [if_pos hc5] at h
            refine fj_swg (t := 65) rfl (by rw [hc5]; rfl) ?_
            refine fj_blk 2 (28, 69, [some (.inr (0, 0)), some (.inl a1), some (.inl a2), some (.inr (7, a1.toNatClampNeg))], [(.inl (q1.2.1 7 a1.toNatClampNeg 4))], q1.2) rfl ?_
            cases h
            exact fj_ri rfl rfl
          · rw [if_neg hc5] at h
            by_cases hc6 : a2 = 2
            · rw [if_pos hc6] at h
              refine fj_swg (t := 70) rfl (by rw [hc6]; rfl) ?_
              refine fj_blk 2 (28, 74, [some (.inr (0, 0)), some (.inl a1), some (.inl a2), some (.inr (7, a1.toNatClampNeg))], [(.inl (q1.2.1 7 a1.toNatClampNeg 5))], q1.2) rfl ?_
              cases h
              exact fj_ri rfl rfl
            · rw [if_neg hc6] at h
              by_cases hc7 : a2 = 3
              · rw [if_pos hc7] at h
                refine fj_swg (t := 75) rfl (by rw [hc7]; rfl) ?_
                refine fj_blk 2 (28, 79, [some (.inr (0, 0)), some (.inl a1), some (.inl a2), some (.inr (7, a1.toNatClampNeg))], [(.inl (q1.2.1 7 a1.toNatClampNeg 6))], q1.2) rfl ?_
                cases h
                exact fj_ri rfl rfl
              · rw [if_neg hc7] at h
                by_cases hc8 : a2 = 4
                · rw [if_pos hc8] at h
                  refine fj_swg (t := 80) rfl (by rw [hc8]; rfl) ?_
                  refine fj_blk 2 (28, 84, [some (.inr (0, 0)), some (.inl a1), some (.inl a2), some (.inr (7, a1.toNatClampNeg))], [(.inl (q1.2.1 7 a1.toNatClampNeg 7))], q1.2) rfl ?_
                  cases h
                  exact fj_ri rfl rfl
                · rw [if_neg hc8] at h
                  by_cases hc9 : a2 = 5
                  · rw [if_pos hc9] at h
                    refine fj_swg (t := 85) rfl (by rw [hc9]; rfl) ?_
                    refine fj_blk 3 (28, 90, [some (.inr (0, 0)), some (.inl a1), some (.inl a2), some (.inr (7, a1.toNatClampNeg))], [(.inl 5), (.inl (q1.2.1 7 a1.toNatClampNeg 2))], q1.2) rfl ?_
                    by_cases hc10 : (q1.2.1 7 a1.toNatClampNeg 2) = 5
                    · rw [if_pos hc10] at h
                      refine fj_bf rfl (fj_nf hc10) ?_
                      refine fj_blk 3 (28, 101, [some (.inr (0, 0)), some (.inl a1), some (.inl a2), some (.inr (7, a1.toNatClampNeg))], [(.inl (q1.2.1 7 a1.toNatClampNeg 8))], q1.2) rfl ?_
                      cases h
                      exact fj_ri rfl rfl
                    · rw [if_neg hc10] at h
                      refine fj_bt rfl (fj_nt hc10) ?_
                      refine fj_blk 1 (28, 101, [some (.inr (0, 0)), some (.inl a1), some (.inl a2), some (.inr (7, a1.toNatClampNeg))], [(.inl 0)], q1.2) rfl ?_
                      cases h
                      exact fj_ri rfl rfl
                  · rw [if_neg hc9] at h
                    by_cases hc11 : a2 = 6
                    · rw [if_pos hc11] at h
                      refine fj_swg (t := 102) rfl (by rw [hc11]; rfl) ?_
                      refine fj_blk 2 (28, 106, [some (.inr (0, 0)), some (.inl a1), some (.inl a2), some (.inr (7, a1.toNatClampNeg))], [(.inl (q1.2.1 7 a1.toNatClampNeg 9))], q1.2) rfl ?_
                      cases h
                      exact fj_ri rfl rfl
                    · rw [if_neg hc11] at h
                      refine fj_swg (t := 107) rfl (by simp only [fj_sw, hc4, hc5, hc6, hc7, hc8, hc9, hc11, if_false]) ?_
                      refine fj_blk 1 (28, 109, [some (.inr (0, 0)), some (.inl a1), some (.inl a2), some (.inr (7, a1.toNatClampNeg))], [(.inl (-1000000001))], q1.2) rfl ?_
                      cases h
                      exact fj_ri rfl rfl
/-- X5_stack -/
def dm_29 (a1 : Int32) (a2 : Int32) (M : fj_M) : Option (Int32 × fj_M) := ((dm_37 a1 M).bind fun q1 => (if q1.1 = 0 then some (0, q1.2) else (if a2 < 0 then some (0, q1.2) else (if a1 < 0 ∨ 12 ≤ a1.toNatClampNeg then none else (if (q1.2.1 7 a1.toNatClampNeg 4) ≤ a2 then some (0, q1.2) else (if a1 < 0 ∨ 12 ≤ a1.toNatClampNeg then none else (if a2 < 0 ∨ 24 ≤ a2.toNatClampNeg then none else some (q1.2.1 8 a1.toNatClampNeg a2.toNatClampNeg, q1.2))))))))
set_option maxRecDepth 40000 in
theorem de_29 (X : fj_X) (a1 : Int32) (a2 : Int32) (M : fj_M) (r : (Int32 × fj_M)) (h : dm_29 a1 a2 M = some r) : fj_ev X (29, 0, [some (.inr (0, 0)), some (.inl a1), some (.inl a2)], [], M) (some r.1, r.2) := by
    unfold dm_29 at h
    refine fj_blk 1 (29, 1, [some (.inr (0, 0)), some (.inl a1), some (.inl a2)], [(.inl a1)], M) rfl ?_
    cases hq1 : dm_37 a1 M with
    | none => rw [hq1] at h; cases h
    | some q1 =>
      rw [hq1, Option.bind_some] at h
      refine fj_cl rfl (de_37 X a1 M _ hq1) ?_
      by_cases hc2 : q1.1 = 0
      · rw [if_pos hc2] at h
        refine fj_bt rfl (decide_eq_true hc2) ?_
        refine fj_blk 1 (29, 39, [some (.inr (0, 0)), some (.inl a1), some (.inl a2)], [(.inl 0)], q1.2) rfl ?_
        cases h
        exact fj_ri rfl rfl
      · rw [if_neg hc2] at h
        refine fj_bf rfl (decide_eq_false hc2) ?_
        refine fj_blk 1 (29, 8, [some (.inr (0, 0)), some (.inl a1), some (.inl a2)], [(.inl a2)], q1.2) rfl ?_
        by_cases hc3 : a2 < 0
        · rw [if_pos hc3] at h
          refine fj_bt rfl (decide_eq_true hc3) ?_
          refine fj_blk 1 (29, 39, [some (.inr (0, 0)), some (.inl a1), some (.inl a2)], [(.inl 0)], q1.2) rfl ?_
          cases h
          exact fj_ri rfl rfl
        · rw [if_neg hc3] at h
          refine fj_bf rfl (decide_eq_false hc3) ?_
          refine fj_blk 4 (29, 17, [some (.inr (0, 0)), some (.inl a1), some (.inl a2)], [(.inl a1), (.inr (4, 0)), (.inl a2)], q1.2) rfl ?_
          by_cases hc4 : a1 < 0 ∨ 12 ≤ a1.toNatClampNeg
          · rw [if_pos hc4] at h
            cases h
          rw [if_neg hc4] at h
          refine fj_aal rfl rfl hc4 ?_
          refine fj_blk 1 (29, 21, [some (.inr (0, 0)), some (.inl a1), some (.inl a2)], [(.inl (q1.2.1 7 a1.toNatClampNeg 4)), (.inl a2)], q1.2) rfl ?_
          by_cases hc5 : (q1.2.1 7 a1.toNatClampNeg 4) ≤ a2
          · rw [if_pos hc5] at h
            refine fj_bt rfl (decide_eq_true hc5) ?_
            refine fj_blk 1 (29, 39, [some (.inr (0, 0)), some (.inl a1), some (.inl a2)], [(.inl 0)], q1.2) rfl ?_
            cases h
            exact fj_ri rfl rfl
          · rw [if_neg hc5] at h
            refine fj_bf rfl (decide_eq_false hc5) ?_
            refine fj_blk 3 (29, 29, [some (.inr (0, 0)), some (.inl a1), some (.inl a2)], [(.inl a1), (.inr (4, 0))], q1.2) rfl ?_
            by_cases hc6 : a1 < 0 ∨ 12 ≤ a1.toNatClampNeg
            · rw [if_pos hc6] at h
              cases h
            rw [if_neg hc6] at h
            refine fj_aal rfl rfl hc6 ?_
            refine fj_blk 2 (29, 34, [some (.inr (0, 0)), some (.inl a1), some (.inl a2)], [(.inl a2), (.inr (8, a1.toNatClampNeg))], q1.2) rfl ?_
            by_cases hc7 : a2 < 0 ∨ 24 ≤ a2.toNatClampNeg
            · rw [if_pos hc7] at h
              cases h
            rw [if_neg hc7] at h
            refine fj_ald rfl rfl hc7 ?_
            refine fj_blk 1 (29, 39, [some (.inr (0, 0)), some (.inl a1), some (.inl a2)], [(.inl (q1.2.1 8 a1.toNatClampNeg a2.toNatClampNeg))], q1.2) rfl ?_
            cases h
            exact fj_ri rfl rfl
/-- X5_held -/
def dm_30 (a1 : Int32) (M : fj_M) : Option (Int32 × fj_M) := ((dm_38 a1 M).bind fun q1 => (if q1.1 = 0 then some ((-1), q1.2) else (if a1 < 0 ∨ 6 ≤ a1.toNatClampNeg then none else some (q1.2.1 10 a1.toNatClampNeg 1, q1.2))))
set_option maxRecDepth 40000 in
theorem de_30 (X : fj_X) (a1 : Int32) (M : fj_M) (r : (Int32 × fj_M)) (h : dm_30 a1 M = some r) : fj_ev X (30, 0, [some (.inr (0, 0)), some (.inl a1)], [], M) (some r.1, r.2) := by
    unfold dm_30 at h
    refine fj_blk 1 (30, 1, [some (.inr (0, 0)), some (.inl a1)], [(.inl a1)], M) rfl ?_
    cases hq1 : dm_38 a1 M with
    | none => rw [hq1] at h; cases h
    | some q1 =>
      rw [hq1, Option.bind_some] at h
      refine fj_cl rfl (de_38 X a1 M _ hq1) ?_
      by_cases hc2 : q1.1 = 0
      · rw [if_pos hc2] at h
        refine fj_bt rfl (decide_eq_true hc2) ?_
        refine fj_blk 1 (30, 20, [some (.inr (0, 0)), some (.inl a1)], [(.inl (-1))], q1.2) rfl ?_
        cases h
        exact fj_ri rfl rfl
      · rw [if_neg hc2] at h
        refine fj_bf rfl (decide_eq_false hc2) ?_
        refine fj_blk 3 (30, 12, [some (.inr (0, 0)), some (.inl a1)], [(.inl a1), (.inr (5, 0))], q1.2) rfl ?_
        by_cases hc3 : a1 < 0 ∨ 6 ≤ a1.toNatClampNeg
        · rw [if_pos hc3] at h
          cases h
        rw [if_neg hc3] at h
        refine fj_aal rfl rfl hc3 ?_
        refine fj_blk 2 (30, 20, [some (.inr (0, 0)), some (.inl a1)], [(.inl (q1.2.1 10 a1.toNatClampNeg 1))], q1.2) rfl ?_
        cases h
        exact fj_ri rfl rfl
/-- X5_channel -/
def dm_31 (a1 : Int32) (a2 : Int32) (M : fj_M) : Option (Int32 × fj_M) := ((dm_38 a1 M).bind fun q1 => (if q1.1 = 0 then some (0, q1.2) else (if a2 < 0 then some (0, q1.2) else (if a1 < 0 ∨ 6 ≤ a1.toNatClampNeg then none else (if (q1.2.1 10 a1.toNatClampNeg 1) ≤ a2 then some (0, q1.2) else (if a1 < 0 ∨ 6 ≤ a1.toNatClampNeg then none else (if a2 < 0 ∨ 8 ≤ a2.toNatClampNeg then none else some (q1.2.1 11 a1.toNatClampNeg a2.toNatClampNeg, q1.2))))))))
set_option maxRecDepth 40000 in
theorem de_31 (X : fj_X) (a1 : Int32) (a2 : Int32) (M : fj_M) (r : (Int32 × fj_M)) (h : dm_31 a1 a2 M = some r) : fj_ev X (31, 0, [some (.inr (0, 0)), some (.inl a1), some (.inl a2)], [], M) (some r.1, r.2) := by
    unfold dm_31 at h
    refine fj_blk 1 (31, 1, [some (.inr (0, 0)), some (.inl a1), some (.inl a2)], [(.inl a1)], M) rfl ?_
    cases hq1 : dm_38 a1 M with
    | none => rw [hq1] at h; cases h
    | some q1 =>
      rw [hq1, Option.bind_some] at h
      refine fj_cl rfl (de_38 X a1 M _ hq1) ?_
      by_cases hc2 : q1.1 = 0
      · rw [if_pos hc2] at h
        refine fj_bt rfl (decide_eq_true hc2) ?_
        refine fj_blk 1 (31, 39, [some (.inr (0, 0)), some (.inl a1), some (.inl a2)], [(.inl 0)], q1.2) rfl ?_
        cases h
        exact fj_ri rfl rfl
      · rw [if_neg hc2] at h
        refine fj_bf rfl (decide_eq_false hc2) ?_
        refine fj_blk 1 (31, 8, [some (.inr (0, 0)), some (.inl a1), some (.inl a2)], [(.inl a2)], q1.2) rfl ?_
        by_cases hc3 : a2 < 0
        · rw [if_pos hc3] at h
          refine fj_bt rfl (decide_eq_true hc3) ?_
          refine fj_blk 1 (31, 39, [some (.inr (0, 0)), some (.inl a1), some (.inl a2)], [(.inl 0)], q1.2) rfl ?_
          cases h
          exact fj_ri rfl rfl
        · rw [if_neg hc3] at h
          refine fj_bf rfl (decide_eq_false hc3) ?_
          refine fj_blk 4 (31, 17, [some (.inr (0, 0)), some (.inl a1), some (.inl a2)], [(.inl a1), (.inr (5, 0)), (.inl a2)], q1.2) rfl ?_
          by_cases hc4 : a1 < 0 ∨ 6 ≤ a1.toNatClampNeg
          · rw [if_pos hc4] at h
            cases h
          rw [if_neg hc4] at h
          refine fj_aal rfl rfl hc4 ?_
          refine fj_blk 1 (31, 21, [some (.inr (0, 0)), some (.inl a1), some (.inl a2)], [(.inl (q1.2.1 10 a1.toNatClampNeg 1)), (.inl a2)], q1.2) rfl ?_
          by_cases hc5 : (q1.2.1 10 a1.toNatClampNeg 1) ≤ a2
          · rw [if_pos hc5] at h
            refine fj_bt rfl (decide_eq_true hc5) ?_
            refine fj_blk 1 (31, 39, [some (.inr (0, 0)), some (.inl a1), some (.inl a2)], [(.inl 0)], q1.2) rfl ?_
            cases h
            exact fj_ri rfl rfl
          · rw [if_neg hc5] at h
            refine fj_bf rfl (decide_eq_false hc5) ?_
            refine fj_blk 3 (31, 29, [some (.inr (0, 0)), some (.inl a1), some (.inl a2)], [(.inl a1), (.inr (5, 0))], q1.2) rfl ?_
            by_cases hc6 : a1 < 0 ∨ 6 ≤ a1.toNatClampNeg
            · rw [if_pos hc6] at h
              cases h
            rw [if_neg hc6] at h
            refine fj_aal rfl rfl hc6 ?_
            refine fj_blk 2 (31, 34, [some (.inr (0, 0)), some (.inl a1), some (.inl a2)], [(.inl a2), (.inr (11, a1.toNatClampNeg))], q1.2) rfl ?_
            by_cases hc7 : a2 < 0 ∨ 8 ≤ a2.toNatClampNeg
            · rw [if_pos hc7] at h
              cases h
            rw [if_neg hc7] at h
            refine fj_ald rfl rfl hc7 ?_
            refine fj_blk 1 (31, 39, [some (.inr (0, 0)), some (.inl a1), some (.inl a2)], [(.inl (q1.2.1 11 a1.toNatClampNeg a2.toNatClampNeg))], q1.2) rfl ?_
            cases h
            exact fj_ri rfl rfl
/-- X5_memory -/
def dm_32 (a1 : Int32) (M : fj_M) : Option (Int32 × fj_M) := ((dm_36 a1 M).bind fun q1 => (if q1.1 = 0 then some (0, q1.2) else (if a1 < 0 ∨ 64 ≤ a1.toNatClampNeg then none else some (q1.2.1 2 0 a1.toNatClampNeg, q1.2))))
set_option maxRecDepth 40000 in
theorem de_32 (X : fj_X) (a1 : Int32) (M : fj_M) (r : (Int32 × fj_M)) (h : dm_32 a1 M = some r) : fj_ev X (32, 0, [some (.inr (0, 0)), some (.inl a1)], [], M) (some r.1, r.2) := by
    unfold dm_32 at h
    refine fj_blk 1 (32, 1, [some (.inr (0, 0)), some (.inl a1)], [(.inl a1)], M) rfl ?_
    cases hq1 : dm_36 a1 M with
    | none => rw [hq1] at h; cases h
    | some q1 =>
      rw [hq1, Option.bind_some] at h
      refine fj_cl rfl (de_36 X a1 M _ hq1) ?_
      by_cases hc2 : q1.1 = 0
      · rw [if_pos hc2] at h
        refine fj_bt rfl (decide_eq_true hc2) ?_
        refine fj_blk 1 (32, 17, [some (.inr (0, 0)), some (.inl a1)], [(.inl 0)], q1.2) rfl ?_
        cases h
        exact fj_ri rfl rfl
      · rw [if_neg hc2] at h
        refine fj_bf rfl (decide_eq_false hc2) ?_
        refine fj_blk 3 (32, 12, [some (.inr (0, 0)), some (.inl a1)], [(.inl a1), (.inr (2, 0))], q1.2) rfl ?_
        by_cases hc3 : a1 < 0 ∨ 64 ≤ a1.toNatClampNeg
        · rw [if_pos hc3] at h
          cases h
        rw [if_neg hc3] at h
        refine fj_ald rfl rfl hc3 ?_
        refine fj_blk 1 (32, 17, [some (.inr (0, 0)), some (.inl a1)], [(.inl (q1.2.1 2 0 a1.toNatClampNeg))], q1.2) rfl ?_
        cases h
        exact fj_ri rfl rfl
/-- X5_record -/
def dm_33 (a1 : Int32) (M : fj_M) : Option (Int32 × fj_M) := (if a1 < 0 then some (0, M) else (if (M.1 0 0 11) ≤ a1 then some (0, M) else (if 300 ≤ a1 then some (0, M) else (if a1 < 0 ∨ 300 ≤ a1.toNatClampNeg then none else some (M.1 3 0 a1.toNatClampNeg, M)))))
set_option maxRecDepth 40000 in
theorem de_33 (X : fj_X) (a1 : Int32) (M : fj_M) (r : (Int32 × fj_M)) (h : dm_33 a1 M = some r) : fj_ev X (33, 0, [some (.inr (0, 0)), some (.inl a1)], [], M) (some r.1, r.2) := by
    unfold dm_33 at h
    refine fj_blk 1 (33, 1, [some (.inr (0, 0)), some (.inl a1)], [(.inl a1)], M) rfl ?_
    by_cases hc1 : a1 < 0
    · rw [if_pos hc1] at h
      refine fj_bt rfl (decide_eq_true hc1) ?_
      refine fj_blk 1 (33, 29, [some (.inr (0, 0)), some (.inl a1)], [(.inl 0)], M) rfl ?_
      cases h
      exact fj_ri rfl rfl
    · rw [if_neg hc1] at h
      refine fj_bf rfl (decide_eq_false hc1) ?_
      refine fj_blk 3 (33, 9, [some (.inr (0, 0)), some (.inl a1)], [(.inl (M.1 0 0 11)), (.inl a1)], M) rfl ?_
      by_cases hc2 : (M.1 0 0 11) ≤ a1
      · rw [if_pos hc2] at h
        refine fj_bt rfl (decide_eq_true hc2) ?_
        refine fj_blk 1 (33, 29, [some (.inr (0, 0)), some (.inl a1)], [(.inl 0)], M) rfl ?_
        cases h
        exact fj_ri rfl rfl
      · rw [if_neg hc2] at h
        refine fj_bf rfl (decide_eq_false hc2) ?_
        refine fj_blk 2 (33, 16, [some (.inr (0, 0)), some (.inl a1)], [(.inl 300), (.inl a1)], M) rfl ?_
        by_cases hc3 : 300 ≤ a1
        · rw [if_pos hc3] at h
          refine fj_bt rfl (decide_eq_true hc3) ?_
          refine fj_blk 1 (33, 29, [some (.inr (0, 0)), some (.inl a1)], [(.inl 0)], M) rfl ?_
          cases h
          exact fj_ri rfl rfl
        · rw [if_neg hc3] at h
          refine fj_bf rfl (decide_eq_false hc3) ?_
          refine fj_blk 3 (33, 24, [some (.inr (0, 0)), some (.inl a1)], [(.inl a1), (.inr (3, 0))], M) rfl ?_
          by_cases hc4 : a1 < 0 ∨ 300 ≤ a1.toNatClampNeg
          · rw [if_pos hc4] at h
            cases h
          rw [if_neg hc4] at h
          refine fj_ald rfl rfl hc4 ?_
          refine fj_blk 1 (33, 29, [some (.inr (0, 0)), some (.inl a1)], [(.inl (M.1 3 0 a1.toNatClampNeg))], M) rfl ?_
          cases h
          exact fj_ri rfl rfl
/-- X5_told -/
def dm_34 (a1 : Int32) (M : fj_M) : Option (Int32 × fj_M) := (if a1 = 0 then some (M.1 0 0 10, M) else (if a1 = 1 then some (M.1 0 0 8, M) else (if a1 = 2 then some (M.1 0 0 9, M) else (if a1 = 3 then some (M.1 0 0 11, M) else (if a1 = 4 then ((dm_42 M).bind fun q6 => some (q6.1, q6.2)) else (if a1 = 5 then ((dm_43 1 M).bind fun q8 => some (q8.1, q8.2)) else (if a1 = 6 then some (M.1 0 0 12, M) else (if a1 = 7 then some (M.1 0 0 13, M) else some ((-2), M)))))))))
set_option maxRecDepth 40000 in
theorem de_34 (X : fj_X) (a1 : Int32) (M : fj_M) (r : (Int32 × fj_M)) (h : dm_34 a1 M = some r) : fj_ev X (34, 0, [some (.inr (0, 0)), some (.inl a1)], [], M) (some r.1, r.2) := by
    unfold dm_34 at h
    refine fj_blk 1 (34, 1, [some (.inr (0, 0)), some (.inl a1)], [(.inl a1)], M) rfl ?_
    by_cases hc1 : a1 = 0
    · rw [if_pos hc1] at h
      refine fj_swg (t := 48) rfl (by rw [hc1]; rfl) ?_
      refine fj_blk 2 (34, 52, [some (.inr (0, 0)), some (.inl a1)], [(.inl (M.1 0 0 10))], M) rfl ?_
      cases h
      exact fj_ri rfl rfl
    · rw [if_neg hc1] at h
      by_cases hc2 : a1 = 1
      · rw [if_pos hc2] at h
        refine fj_swg (t := 53) rfl (by rw [hc2]; rfl) ?_
        refine fj_blk 2 (34, 57, [some (.inr (0, 0)), some (.inl a1)], [(.inl (M.1 0 0 8))], M) rfl ?_
        cases h
        exact fj_ri rfl rfl
      · rw [if_neg hc2] at h
        by_cases hc3 : a1 = 2
        · rw [if_pos hc3] at h
          refine fj_swg (t := 58) rfl (by rw [hc3]; rfl) ?_
          refine fj_blk 2 (34, 62, [some (.inr (0, 0)), some (.inl a1)], [(.inl (M.1 0 0 9))], M) rfl ?_
          cases h
          exact fj_ri rfl rfl
        · rw [if_neg hc3] at h
          by_cases hc4 : a1 = 3
          · rw [if_pos hc4] at h
            refine fj_swg (t := 63) rfl (by rw [hc4]; rfl) ?_
            refine fj_blk 2 (34, 67, [some (.inr (0, 0)), some (.inl a1)], [(.inl (M.1 0 0 11))], M) rfl ?_
            cases h
            exact fj_ri rfl rfl
          · rw [if_neg hc4] at h
            by_cases hc5 : a1 = 4
            · rw [if_pos hc5] at h
              refine fj_swg (t := 68) rfl (by rw [hc5]; rfl) ?_
              refine fj_blk 1 (34, 69, [some (.inr (0, 0)), some (.inl a1)], [(.inr (0, 0))], M) rfl ?_
              cases hq6 : dm_42 M with
              | none => rw [hq6] at h; cases h
              | some q6 =>
                rw [hq6, Option.bind_some] at h
                refine fj_cl rfl (de_42 X M _ hq6) ?_
                cases h
                exact fj_ri rfl rfl
            · rw [if_neg hc5] at h
              by_cases hc7 : a1 = 5
              · rw [if_pos hc7] at h
                refine fj_swg (t := 73) rfl (by rw [hc7]; rfl) ?_
                refine fj_blk 2 (34, 75, [some (.inr (0, 0)), some (.inl a1)], [(.inl 1), (.inr (0, 0))], M) rfl ?_
                cases hq8 : dm_43 1 M with
                | none => rw [hq8] at h; cases h
                | some q8 =>
                  rw [hq8, Option.bind_some] at h
                  refine fj_cl rfl (de_43 X 1 M _ hq8) ?_
                  cases h
                  exact fj_ri rfl rfl
              · rw [if_neg hc7] at h
                by_cases hc9 : a1 = 6
                · rw [if_pos hc9] at h
                  refine fj_swg (t := 79) rfl (by rw [hc9]; rfl) ?_
                  refine fj_blk 2 (34, 83, [some (.inr (0, 0)), some (.inl a1)], [(.inl (M.1 0 0 12))], M) rfl ?_
                  cases h
                  exact fj_ri rfl rfl
                · rw [if_neg hc9] at h
                  by_cases hc10 : a1 = 7
                  · rw [if_pos hc10] at h
                    refine fj_swg (t := 84) rfl (by rw [hc10]; rfl) ?_
                    refine fj_blk 2 (34, 88, [some (.inr (0, 0)), some (.inl a1)], [(.inl (M.1 0 0 13))], M) rfl ?_
                    cases h
                    exact fj_ri rfl rfl
                  · rw [if_neg hc10] at h
                    refine fj_swg (t := 89) rfl (by simp only [fj_sw, hc1, hc2, hc3, hc4, hc5, hc7, hc9, hc10, if_false]) ?_
                    refine fj_blk 1 (34, 91, [some (.inr (0, 0)), some (.inl a1)], [(.inl (-2))], M) rfl ?_
                    cases h
                    exact fj_ri rfl rfl
