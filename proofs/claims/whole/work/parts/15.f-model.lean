/-! METHODS AS FUNCTIONS: by program -/
/-- X6_in -/
def dm_78 (a0 : Int32) (a1 : Int32) (a2 : Int32) (M : fj_M) : Option (Int32 × fj_M) := (if a0 < a1 then some (0, M) else (if a2 < a0 then some (0, M) else some (1, M)))
set_option maxRecDepth 40000 in
theorem de_78 (X : fj_X) (a0 : Int32) (a1 : Int32) (a2 : Int32) (M : fj_M) (r : (Int32 × fj_M)) (h : dm_78 a0 a1 a2 M = some r) : fj_ev X (78, 0, [some (.inl a0), some (.inl a1), some (.inl a2)], [], M) (some r.1, r.2) := by
    unfold dm_78 at h
    refine fj_blk 2 (78, 2, [some (.inl a0), some (.inl a1), some (.inl a2)], [(.inl a1), (.inl a0)], M) rfl ?_
    by_cases hc1 : a0 < a1
    · rw [if_pos hc1] at h
      refine fj_bt rfl (decide_eq_true hc1) ?_
      refine fj_blk 1 (78, 15, [some (.inl a0), some (.inl a1), some (.inl a2)], [(.inl 0)], M) rfl ?_
      cases h
      exact fj_rz rfl rfl (Or.inl rfl)
    · rw [if_neg hc1] at h
      refine fj_bf rfl (decide_eq_false hc1) ?_
      refine fj_blk 2 (78, 7, [some (.inl a0), some (.inl a1), some (.inl a2)], [(.inl a2), (.inl a0)], M) rfl ?_
      by_cases hc2 : a2 < a0
      · rw [if_pos hc2] at h
        refine fj_bt rfl (decide_eq_true hc2) ?_
        refine fj_blk 1 (78, 15, [some (.inl a0), some (.inl a1), some (.inl a2)], [(.inl 0)], M) rfl ?_
        cases h
        exact fj_rz rfl rfl (Or.inl rfl)
      · rw [if_neg hc2] at h
        refine fj_bf rfl (decide_eq_false hc2) ?_
        refine fj_blk 2 (78, 15, [some (.inl a0), some (.inl a1), some (.inl a2)], [(.inl 1)], M) rfl ?_
        cases h
        exact fj_rz rfl rfl (Or.inr rfl)
/-- X6_poke -/
def dm_79 (a1 : Int32) (a2 : Int32) (M : fj_M) : Option (Int32 × fj_M) := ((dm_78 a1 0 511 M).bind fun q1 => (if q1.1 = 0 then some (0, q1.2) else (if a1 < 0 ∨ 512 ≤ a1.toNatClampNeg then none else (if a1 < 0 ∨ 512 ≤ a1.toNatClampNeg then none else some (q1.2.2 21 0 a1.toNatClampNeg, (q1.2.1, (fj_u1 q1.2.2 21 0 a1.toNatClampNeg a2)))))))
set_option maxRecDepth 40000 in
theorem de_79 (X : fj_X) (a1 : Int32) (a2 : Int32) (M : fj_M) (r : (Int32 × fj_M)) (h : dm_79 a1 a2 M = some r) : fj_ev X (79, 0, [some (.inr (20, 0)), some (.inl a1), some (.inl a2), none], [], M) (some r.1, r.2) := by
    unfold dm_79 at h
    refine fj_blk 3 (79, 5, [some (.inr (20, 0)), some (.inl a1), some (.inl a2), none], [(.inl 511), (.inl 0), (.inl a1)], M) rfl ?_
    cases hq1 : dm_78 a1 0 511 M with
    | none => rw [hq1] at h; cases h
    | some q1 =>
      rw [hq1, Option.bind_some] at h
      refine fj_cl rfl (de_78 X a1 0 511 M _ hq1) ?_
      by_cases hc2 : q1.1 = 0
      · rw [if_pos hc2] at h
        refine fj_bf rfl (fj_nf hc2) ?_
        refine fj_blk 1 (79, 12, [some (.inr (20, 0)), some (.inl a1), some (.inl a2), none], [(.inl 0)], q1.2) rfl ?_
        cases h
        exact fj_ri rfl rfl
      · rw [if_neg hc2] at h
        refine fj_bt rfl (fj_nt hc2) ?_
        refine fj_blk 3 (79, 18, [some (.inr (20, 0)), some (.inl a1), some (.inl a2), none], [(.inl a1), (.inr (21, 0))], q1.2) rfl ?_
        by_cases hc3 : a1 < 0 ∨ 512 ≤ a1.toNatClampNeg
        · rw [if_pos hc3] at h
          cases h
        rw [if_neg hc3] at h
        refine fj_ald rfl rfl hc3 ?_
        refine fj_blk 5 (79, 26, [some (.inr (20, 0)), some (.inl a1), some (.inl a2), some (.inl (q1.2.2 21 0 a1.toNatClampNeg))], [(.inl a2), (.inl a1), (.inr (21, 0))], q1.2) rfl ?_
        by_cases hc4 : a1 < 0 ∨ 512 ≤ a1.toNatClampNeg
        · rw [if_pos hc4] at h
          cases h
        rw [if_neg hc4] at h
        refine fj_ast rfl rfl hc4 ?_
        refine fj_blk 1 (79, 28, [some (.inr (20, 0)), some (.inl a1), some (.inl a2), some (.inl (q1.2.2 21 0 a1.toNatClampNeg))], [(.inl (q1.2.2 21 0 a1.toNatClampNeg))], (q1.2.1, (fj_u1 q1.2.2 21 0 a1.toNatClampNeg a2))) rfl ?_
        cases h
        exact fj_ri rfl rfl
/-- X6_code -/
def dm_80 (a1 : Int32) (M : fj_M) : Option (Int32 × fj_M) := ((dm_78 a1 0 511 M).bind fun q1 => (if q1.1 = 0 then some (0, q1.2) else (if a1 < 0 ∨ 512 ≤ a1.toNatClampNeg then none else some (q1.2.2 21 0 a1.toNatClampNeg, q1.2))))
set_option maxRecDepth 40000 in
theorem de_80 (X : fj_X) (a1 : Int32) (M : fj_M) (r : (Int32 × fj_M)) (h : dm_80 a1 M = some r) : fj_ev X (80, 0, [some (.inr (20, 0)), some (.inl a1)], [], M) (some r.1, r.2) := by
    unfold dm_80 at h
    refine fj_blk 3 (80, 5, [some (.inr (20, 0)), some (.inl a1)], [(.inl 511), (.inl 0), (.inl a1)], M) rfl ?_
    cases hq1 : dm_78 a1 0 511 M with
    | none => rw [hq1] at h; cases h
    | some q1 =>
      rw [hq1, Option.bind_some] at h
      refine fj_cl rfl (de_78 X a1 0 511 M _ hq1) ?_
      by_cases hc2 : q1.1 = 0
      · rw [if_pos hc2] at h
        refine fj_bt rfl (decide_eq_true hc2) ?_
        refine fj_blk 1 (80, 21, [some (.inr (20, 0)), some (.inl a1)], [(.inl 0)], q1.2) rfl ?_
        cases h
        exact fj_ri rfl rfl
      · rw [if_neg hc2] at h
        refine fj_bf rfl (decide_eq_false hc2) ?_
        refine fj_blk 3 (80, 16, [some (.inr (20, 0)), some (.inl a1)], [(.inl a1), (.inr (21, 0))], q1.2) rfl ?_
        by_cases hc3 : a1 < 0 ∨ 512 ≤ a1.toNatClampNeg
        · rw [if_pos hc3] at h
          cases h
        rw [if_neg hc3] at h
        refine fj_ald rfl rfl hc3 ?_
        refine fj_blk 1 (80, 21, [some (.inr (20, 0)), some (.inl a1)], [(.inl (q1.2.2 21 0 a1.toNatClampNeg))], q1.2) rfl ?_
        cases h
        exact fj_ri rfl rfl
/-- X6_word -/
def dm_81 (a1 : Int32) (a2 : Int32) (M : fj_M) : Option (Int32 × fj_M) := ((dm_78 a1 0 255 M).bind fun q1 => (if q1.1 = 0 then some (0, q1.2) else some ((a2 <<< (8 &&& 31)) ||| a1, q1.2)))
set_option maxRecDepth 40000 in
theorem de_81 (X : fj_X) (a1 : Int32) (a2 : Int32) (M : fj_M) (r : (Int32 × fj_M)) (h : dm_81 a1 a2 M = some r) : fj_ev X (81, 0, [some (.inr (20, 0)), some (.inl a1), some (.inl a2)], [], M) (some r.1, r.2) := by
    unfold dm_81 at h
    refine fj_blk 3 (81, 5, [some (.inr (20, 0)), some (.inl a1), some (.inl a2)], [(.inl 255), (.inl 0), (.inl a1)], M) rfl ?_
    cases hq1 : dm_78 a1 0 255 M with
    | none => rw [hq1] at h; cases h
    | some q1 =>
      rw [hq1, Option.bind_some] at h
      refine fj_cl rfl (de_78 X a1 0 255 M _ hq1) ?_
      by_cases hc2 : q1.1 = 0
      · rw [if_pos hc2] at h
        refine fj_bt rfl (decide_eq_true hc2) ?_
        refine fj_blk 1 (81, 21, [some (.inr (20, 0)), some (.inl a1), some (.inl a2)], [(.inl 0)], q1.2) rfl ?_
        cases h
        exact fj_ri rfl rfl
      · rw [if_neg hc2] at h
        refine fj_bf rfl (decide_eq_false hc2) ?_
        refine fj_blk 6 (81, 21, [some (.inr (20, 0)), some (.inl a1), some (.inl a2)], [(.inl ((a2 <<< (8 &&& 31)) ||| a1))], q1.2) rfl ?_
        cases h
        exact fj_ri rfl rfl
/-- X6_isLive -/
def dm_82 (a1 : Int32) (M : fj_M) : Option (Int32 × fj_M) := (if a1 < 0 ∨ 12 ≤ a1.toNatClampNeg then none else ((dm_78 (M.2 23 0 a1.toNatClampNeg) 1 6 M).bind fun q2 => (if q2.1 = 0 ∨ q2.1 = 1 then some (q2.1, q2.2) else none)))
set_option maxRecDepth 40000 in
theorem de_82 (X : fj_X) (a1 : Int32) (M : fj_M) (r : (Int32 × fj_M)) (h : dm_82 a1 M = some r) : fj_ev X (82, 0, [some (.inr (20, 0)), some (.inl a1)], [], M) (some r.1, r.2) := by
    unfold dm_82 at h
    refine fj_blk 3 (82, 5, [some (.inr (20, 0)), some (.inl a1)], [(.inl a1), (.inr (23, 0))], M) rfl ?_
    by_cases hc1 : a1 < 0 ∨ 12 ≤ a1.toNatClampNeg
    · rw [if_pos hc1] at h
      cases h
    rw [if_neg hc1] at h
    refine fj_ald rfl rfl hc1 ?_
    refine fj_blk 2 (82, 9, [some (.inr (20, 0)), some (.inl a1)], [(.inl 6), (.inl 1), (.inl (M.2 23 0 a1.toNatClampNeg))], M) rfl ?_
    cases hq2 : dm_78 (M.2 23 0 a1.toNatClampNeg) 1 6 M with
    | none => rw [hq2] at h; cases h
    | some q2 =>
      rw [hq2, Option.bind_some] at h
      refine fj_cl rfl (de_78 X (M.2 23 0 a1.toNatClampNeg) 1 6 M _ hq2) ?_
      by_cases hc3 : q2.1 = 0 ∨ q2.1 = 1
      · rw [if_pos hc3] at h
        cases h
        exact fj_rz rfl rfl hc3
      · rw [if_neg hc3] at h
        cases h
def dm_83_22  (rec5 : Int32 → Int32 → fj_M → Option (Int32 × fj_M)) (a1 : Int32) (a2 : Int32) (s0 : Int32) (M : fj_M) : Option (Int32 × fj_M) := rec5 s0 (a2 + (-1)) M
set_option maxRecDepth 40000 in
theorem de_83_22 (X : fj_X) (rec5 : Int32 → Int32 → fj_M → Option (Int32 × fj_M)) (hrec5 : ∀ (a1 : Int32) (a2 : Int32) (M : fj_M) (r : (Int32 × fj_M)), rec5 a1 a2 M = some r → fj_ev X (83, 5, [some (.inr (20, 0)), some (.inl a1), some (.inl a2)], [], M) (some r.1, r.2)) (a1 : Int32) (a2 : Int32) (s0 : Int32) (M : fj_M) (r : (Int32 × fj_M)) (h : dm_83_22 rec5 a1 a2 s0 M = some r) : fj_ev X (83, 22, [some (.inr (20, 0)), some (.inl a1), some (.inl a2)], [(.inl s0)], M) (some r.1, r.2) := by
    unfold dm_83_22 at h
    refine fj_blk 3 (83, 5, [some (.inr (20, 0)), some (.inl s0), some (.inl (a2 + (-1)))], [], M) rfl ?_
    exact hrec5 s0 (a2 + (-1)) M r h
def dm_83_5  : Nat → Int32 → Int32 → fj_M → Option (Int32 × fj_M)
  | 0, _, _, _ => none
  | n + 1, a1, a2, M => (if a2 < 0 then some (a1, M) else ((dm_82 a2 M).bind fun q2 => (if q2.1 = 0 then dm_83_22 (dm_83_5 n) a1 a2 a2 q2.2 else dm_83_22 (dm_83_5 n) a1 a2 a1 q2.2)))
set_option maxRecDepth 40000 in
theorem de_83_5 (X : fj_X) : ∀ (n : Nat) (a1 : Int32) (a2 : Int32) (M : fj_M) (r : (Int32 × fj_M)), dm_83_5 n a1 a2 M = some r → fj_ev X (83, 5, [some (.inr (20, 0)), some (.inl a1), some (.inl a2)], [], M) (some r.1, r.2)
  | 0, _, _, _, r, h => by cases h
  | n + 1, a1, a2, M, r, h => by
    unfold dm_83_5 at h
    refine fj_blk 1 (83, 6, [some (.inr (20, 0)), some (.inl a1), some (.inl a2)], [(.inl a2)], M) rfl ?_
    by_cases hc1 : a2 < 0
    · rw [if_pos hc1] at h
      refine fj_bt rfl (decide_eq_true hc1) ?_
      refine fj_blk 1 (83, 30, [some (.inr (20, 0)), some (.inl a1), some (.inl a2)], [(.inl a1)], M) rfl ?_
      cases h
      exact fj_ri rfl rfl
    · rw [if_neg hc1] at h
      refine fj_bf rfl (decide_eq_false hc1) ?_
      refine fj_blk 2 (83, 11, [some (.inr (20, 0)), some (.inl a1), some (.inl a2)], [(.inl a2), (.inr (20, 0))], M) rfl ?_
      cases hq2 : dm_82 a2 M with
      | none => rw [hq2] at h; cases h
      | some q2 =>
        rw [hq2, Option.bind_some] at h
        refine fj_cl rfl (de_82 X a2 M _ hq2) ?_
        by_cases hc3 : q2.1 = 0
        · rw [if_pos hc3] at h
          refine fj_bt rfl (decide_eq_true hc3) ?_
          refine fj_blk 1 (83, 22, [some (.inr (20, 0)), some (.inl a1), some (.inl a2)], [(.inl a2)], q2.2) rfl ?_
          exact de_83_22 X (dm_83_5 n) (de_83_5 X n) a1 a2 a2 q2.2 r h
        · rw [if_neg hc3] at h
          refine fj_bf rfl (decide_eq_false hc3) ?_
          refine fj_blk 2 (83, 22, [some (.inr (20, 0)), some (.inl a1), some (.inl a2)], [(.inl a1)], q2.2) rfl ?_
          exact de_83_22 X (dm_83_5 n) (de_83_5 X n) a1 a2 a1 q2.2 r h
/-- X6_unused -/
def dm_83  (M : fj_M) : Option (Int32 × fj_M) := dm_83_5 40 (-1) 11 M
set_option maxRecDepth 40000 in
theorem de_83 (X : fj_X)  (M : fj_M) (r : (Int32 × fj_M)) (h : dm_83  M = some r) : fj_ev X (83, 0, [some (.inr (20, 0)), none, none], [], M) (some r.1, r.2) := by
    unfold dm_83 at h
    refine fj_blk 4 (83, 5, [some (.inr (20, 0)), some (.inl (-1)), some (.inl 11)], [], M) rfl ?_
    exact de_83_5 X 40 (-1) 11 M r h
def dm_84_79  : Nat → Int32 → Int32 → Int32 → Int32 → fj_M → Option fj_M
  | 0, _, _, _, _, _ => none
  | n + 1, a1, a2, a3, a4, M => (if 12 ≤ a4 then some M else (if a4 < 0 ∨ 12 ≤ a4.toNatClampNeg then none else (if a4 < 0 ∨ 12 ≤ a4.toNatClampNeg then none else dm_84_79 n a1 a2 a3 (a4 + 1) (M.1, (fj_u1 M.2 30 0 a4.toNatClampNeg ((M.2 30 0 a4.toNatClampNeg) &&& ((1 <<< (a1 &&& 31)) ^^^ (-1))))))))
set_option maxRecDepth 40000 in
theorem de_84_79 (X : fj_X) : ∀ (n : Nat) (a1 : Int32) (a2 : Int32) (a3 : Int32) (a4 : Int32) (M : fj_M) (r : fj_M), dm_84_79 n a1 a2 a3 a4 M = some r → fj_ev X (84, 79, [some (.inr (20, 0)), some (.inl a1), some (.inl a2), some (.inl a3), some (.inl a4)], [], M) (none, r)
  | 0, _, _, _, _, _, r, h => by cases h
  | n + 1, a1, a2, a3, a4, M, r, h => by
    unfold dm_84_79 at h
    refine fj_blk 2 (84, 83, [some (.inr (20, 0)), some (.inl a1), some (.inl a2), some (.inl a3), some (.inl a4)], [(.inl 12), (.inl a4)], M) rfl ?_
    by_cases hc1 : 12 ≤ a4
    · rw [if_pos hc1] at h
      refine fj_bt rfl (decide_eq_true hc1) ?_
      cases h
      exact fj_rv rfl rfl
    · rw [if_neg hc1] at h
      refine fj_bf rfl (decide_eq_false hc1) ?_
      refine fj_blk 4 (84, 93, [some (.inr (20, 0)), some (.inl a1), some (.inl a2), some (.inl a3), some (.inl a4)], [(.inl a4), (.inr (30, 0)), (.inl a4), (.inr (30, 0))], M) rfl ?_
      by_cases hc2 : a4 < 0 ∨ 12 ≤ a4.toNatClampNeg
      · rw [if_pos hc2] at h
        cases h
      rw [if_neg hc2] at h
      refine fj_ald rfl rfl hc2 ?_
      refine fj_blk 6 (84, 100, [some (.inr (20, 0)), some (.inl a1), some (.inl a2), some (.inl a3), some (.inl a4)], [(.inl ((M.2 30 0 a4.toNatClampNeg) &&& ((1 <<< (a1 &&& 31)) ^^^ (-1)))), (.inl a4), (.inr (30, 0))], M) rfl ?_
      by_cases hc3 : a4 < 0 ∨ 12 ≤ a4.toNatClampNeg
      · rw [if_pos hc3] at h
        cases h
      rw [if_neg hc3] at h
      refine fj_ast rfl rfl hc3 ?_
      refine fj_blk 2 (84, 79, [some (.inr (20, 0)), some (.inl a1), some (.inl a2), some (.inl a3), some (.inl (a4 + 1))], [], (M.1, (fj_u1 M.2 30 0 a4.toNatClampNeg ((M.2 30 0 a4.toNatClampNeg) &&& ((1 <<< (a1 &&& 31)) ^^^ (-1)))))) rfl ?_
      exact de_84_79 X n a1 a2 a3 (a4 + 1) (M.1, (fj_u1 M.2 30 0 a4.toNatClampNeg ((M.2 30 0 a4.toNatClampNeg) &&& ((1 <<< (a1 &&& 31)) ^^^ (-1))))) r h
/-- X6_begin -/
def dm_84 (a1 : Int32) (a2 : Int32) (a3 : Int32) (M : fj_M) : Option fj_M := (if a1 < 0 ∨ 12 ≤ a1.toNatClampNeg then none else (if a1 < 0 ∨ 12 ≤ a1.toNatClampNeg then none else (if a1 < 0 ∨ 12 ≤ a1.toNatClampNeg then none else (if (24 * a1) < 0 ∨ 288 ≤ (24 * a1).toNatClampNeg then none else (if a1 < 0 ∨ 12 ≤ a1.toNatClampNeg then none else (if a1 < 0 ∨ 12 ≤ a1.toNatClampNeg then none else (if a1 < 0 ∨ 12 ≤ a1.toNatClampNeg then none else (if a1 < 0 ∨ 12 ≤ a1.toNatClampNeg then none else (if a1 < 0 ∨ 12 ≤ a1.toNatClampNeg then none else dm_84_79 40 a1 a2 a3 0 (M.1, (fj_u1 (fj_u1 (fj_u1 (fj_u1 (fj_u1 (fj_u1 (fj_u1 (fj_u1 (fj_u1 (fj_u1 M.2 23 0 a1.toNatClampNeg 1) 24 0 a1.toNatClampNeg a2) 25 0 a1.toNatClampNeg 1) 26 0 ((24 * a1).toNatClampNeg) a3) 27 0 a1.toNatClampNeg 0) 29 0 a1.toNatClampNeg (-1)) 30 0 a1.toNatClampNeg 0) 31 0 a1.toNatClampNeg 0) 32 0 a1.toNatClampNeg 0) 20 0 24 (((fj_u1 (fj_u1 (fj_u1 (fj_u1 (fj_u1 (fj_u1 (fj_u1 (fj_u1 (fj_u1 M.2 23 0 a1.toNatClampNeg 1) 24 0 a1.toNatClampNeg a2) 25 0 a1.toNatClampNeg 1) 26 0 ((24 * a1).toNatClampNeg) a3) 27 0 a1.toNatClampNeg 0) 29 0 a1.toNatClampNeg (-1)) 30 0 a1.toNatClampNeg 0) 31 0 a1.toNatClampNeg 0) 32 0 a1.toNatClampNeg 0) 20 0 24) + 1))))))))))))
set_option maxRecDepth 40000 in
theorem de_84 (X : fj_X) (a1 : Int32) (a2 : Int32) (a3 : Int32) (M : fj_M) (r : fj_M) (h : dm_84 a1 a2 a3 M = some r) : fj_ev X (84, 0, [some (.inr (20, 0)), some (.inl a1), some (.inl a2), some (.inl a3), none], [], M) (none, r) := by
    unfold dm_84 at h
    refine fj_blk 4 (84, 6, [some (.inr (20, 0)), some (.inl a1), some (.inl a2), some (.inl a3), none], [(.inl 1), (.inl a1), (.inr (23, 0))], M) rfl ?_
    by_cases hc1 : a1 < 0 ∨ 12 ≤ a1.toNatClampNeg
    · rw [if_pos hc1] at h
      cases h
    rw [if_neg hc1] at h
    refine fj_ast rfl rfl hc1 ?_
    refine fj_blk 4 (84, 13, [some (.inr (20, 0)), some (.inl a1), some (.inl a2), some (.inl a3), none], [(.inl a2), (.inl a1), (.inr (24, 0))], (M.1, (fj_u1 M.2 23 0 a1.toNatClampNeg 1))) rfl ?_
    by_cases hc2 : a1 < 0 ∨ 12 ≤ a1.toNatClampNeg
    · rw [if_pos hc2] at h
      cases h
    rw [if_neg hc2] at h
    refine fj_ast rfl rfl hc2 ?_
    refine fj_blk 4 (84, 20, [some (.inr (20, 0)), some (.inl a1), some (.inl a2), some (.inl a3), none], [(.inl 1), (.inl a1), (.inr (25, 0))], (M.1, (fj_u1 (fj_u1 M.2 23 0 a1.toNatClampNeg 1) 24 0 a1.toNatClampNeg a2))) rfl ?_
    by_cases hc3 : a1 < 0 ∨ 12 ≤ a1.toNatClampNeg
    · rw [if_pos hc3] at h
      cases h
    rw [if_neg hc3] at h
    refine fj_ast rfl rfl hc3 ?_
    refine fj_blk 6 (84, 30, [some (.inr (20, 0)), some (.inl a1), some (.inl a2), some (.inl a3), none], [(.inl a3), (.inl (24 * a1)), (.inr (26, 0))], (M.1, (fj_u1 (fj_u1 (fj_u1 M.2 23 0 a1.toNatClampNeg 1) 24 0 a1.toNatClampNeg a2) 25 0 a1.toNatClampNeg 1))) rfl ?_
    by_cases hc4 : (24 * a1) < 0 ∨ 288 ≤ (24 * a1).toNatClampNeg
    · rw [if_pos hc4] at h
      cases h
    rw [if_neg hc4] at h
    refine fj_ast rfl rfl hc4 ?_
    refine fj_blk 4 (84, 37, [some (.inr (20, 0)), some (.inl a1), some (.inl a2), some (.inl a3), none], [(.inl 0), (.inl a1), (.inr (27, 0))], (M.1, (fj_u1 (fj_u1 (fj_u1 (fj_u1 M.2 23 0 a1.toNatClampNeg 1) 24 0 a1.toNatClampNeg a2) 25 0 a1.toNatClampNeg 1) 26 0 ((24 * a1).toNatClampNeg) a3))) rfl ?_
    by_cases hc5 : a1 < 0 ∨ 12 ≤ a1.toNatClampNeg
    · rw [if_pos hc5] at h
      cases h
    rw [if_neg hc5] at h
    refine fj_ast rfl rfl hc5 ?_
    refine fj_blk 4 (84, 44, [some (.inr (20, 0)), some (.inl a1), some (.inl a2), some (.inl a3), none], [(.inl (-1)), (.inl a1), (.inr (29, 0))], (M.1, (fj_u1 (fj_u1 (fj_u1 (fj_u1 (fj_u1 M.2 23 0 a1.toNatClampNeg 1) 24 0 a1.toNatClampNeg a2) 25 0 a1.toNatClampNeg 1) 26 0 ((24 * a1).toNatClampNeg) a3) 27 0 a1.toNatClampNeg 0))) rfl ?_
    by_cases hc6 : a1 < 0 ∨ 12 ≤ a1.toNatClampNeg
    · rw [if_pos hc6] at h
      cases h
    rw [if_neg hc6] at h
    refine fj_ast rfl rfl hc6 ?_
    refine fj_blk 4 (84, 51, [some (.inr (20, 0)), some (.inl a1), some (.inl a2), some (.inl a3), none], [(.inl 0), (.inl a1), (.inr (30, 0))], (M.1, (fj_u1 (fj_u1 (fj_u1 (fj_u1 (fj_u1 (fj_u1 M.2 23 0 a1.toNatClampNeg 1) 24 0 a1.toNatClampNeg a2) 25 0 a1.toNatClampNeg 1) 26 0 ((24 * a1).toNatClampNeg) a3) 27 0 a1.toNatClampNeg 0) 29 0 a1.toNatClampNeg (-1)))) rfl ?_
    by_cases hc7 : a1 < 0 ∨ 12 ≤ a1.toNatClampNeg
    · rw [if_pos hc7] at h
      cases h
    rw [if_neg hc7] at h
    refine fj_ast rfl rfl hc7 ?_
    refine fj_blk 4 (84, 58, [some (.inr (20, 0)), some (.inl a1), some (.inl a2), some (.inl a3), none], [(.inl 0), (.inl a1), (.inr (31, 0))], (M.1, (fj_u1 (fj_u1 (fj_u1 (fj_u1 (fj_u1 (fj_u1 (fj_u1 M.2 23 0 a1.toNatClampNeg 1) 24 0 a1.toNatClampNeg a2) 25 0 a1.toNatClampNeg 1) 26 0 ((24 * a1).toNatClampNeg) a3) 27 0 a1.toNatClampNeg 0) 29 0 a1.toNatClampNeg (-1)) 30 0 a1.toNatClampNeg 0))) rfl ?_
    by_cases hc8 : a1 < 0 ∨ 12 ≤ a1.toNatClampNeg
    · rw [if_pos hc8] at h
      cases h
    rw [if_neg hc8] at h
    refine fj_ast rfl rfl hc8 ?_
    refine fj_blk 4 (84, 65, [some (.inr (20, 0)), some (.inl a1), some (.inl a2), some (.inl a3), none], [(.inl 0), (.inl a1), (.inr (32, 0))], (M.1, (fj_u1 (fj_u1 (fj_u1 (fj_u1 (fj_u1 (fj_u1 (fj_u1 (fj_u1 M.2 23 0 a1.toNatClampNeg 1) 24 0 a1.toNatClampNeg a2) 25 0 a1.toNatClampNeg 1) 26 0 ((24 * a1).toNatClampNeg) a3) 27 0 a1.toNatClampNeg 0) 29 0 a1.toNatClampNeg (-1)) 30 0 a1.toNatClampNeg 0) 31 0 a1.toNatClampNeg 0))) rfl ?_
    by_cases hc9 : a1 < 0 ∨ 12 ≤ a1.toNatClampNeg
    · rw [if_pos hc9] at h
      cases h
    rw [if_neg hc9] at h
    refine fj_ast rfl rfl hc9 ?_
    refine fj_blk 8 (84, 79, [some (.inr (20, 0)), some (.inl a1), some (.inl a2), some (.inl a3), some (.inl 0)], [], (M.1, (fj_u1 (fj_u1 (fj_u1 (fj_u1 (fj_u1 (fj_u1 (fj_u1 (fj_u1 (fj_u1 (fj_u1 M.2 23 0 a1.toNatClampNeg 1) 24 0 a1.toNatClampNeg a2) 25 0 a1.toNatClampNeg 1) 26 0 ((24 * a1).toNatClampNeg) a3) 27 0 a1.toNatClampNeg 0) 29 0 a1.toNatClampNeg (-1)) 30 0 a1.toNatClampNeg 0) 31 0 a1.toNatClampNeg 0) 32 0 a1.toNatClampNeg 0) 20 0 24 (((fj_u1 (fj_u1 (fj_u1 (fj_u1 (fj_u1 (fj_u1 (fj_u1 (fj_u1 (fj_u1 M.2 23 0 a1.toNatClampNeg 1) 24 0 a1.toNatClampNeg a2) 25 0 a1.toNatClampNeg 1) 26 0 ((24 * a1).toNatClampNeg) a3) 27 0 a1.toNatClampNeg 0) 29 0 a1.toNatClampNeg (-1)) 30 0 a1.toNatClampNeg 0) 31 0 a1.toNatClampNeg 0) 32 0 a1.toNatClampNeg 0) 20 0 24) + 1)))) rfl ?_
    exact de_84_79 X 40 a1 a2 a3 0 (M.1, (fj_u1 (fj_u1 (fj_u1 (fj_u1 (fj_u1 (fj_u1 (fj_u1 (fj_u1 (fj_u1 (fj_u1 M.2 23 0 a1.toNatClampNeg 1) 24 0 a1.toNatClampNeg a2) 25 0 a1.toNatClampNeg 1) 26 0 ((24 * a1).toNatClampNeg) a3) 27 0 a1.toNatClampNeg 0) 29 0 a1.toNatClampNeg (-1)) 30 0 a1.toNatClampNeg 0) 31 0 a1.toNatClampNeg 0) 32 0 a1.toNatClampNeg 0) 20 0 24 (((fj_u1 (fj_u1 (fj_u1 (fj_u1 (fj_u1 (fj_u1 (fj_u1 (fj_u1 (fj_u1 M.2 23 0 a1.toNatClampNeg 1) 24 0 a1.toNatClampNeg a2) 25 0 a1.toNatClampNeg 1) 26 0 ((24 * a1).toNatClampNeg) a3) 27 0 a1.toNatClampNeg 0) 29 0 a1.toNatClampNeg (-1)) 30 0 a1.toNatClampNeg 0) 31 0 a1.toNatClampNeg 0) 32 0 a1.toNatClampNeg 0) 20 0 24) + 1))) r h
def dm_93_184  (rec2 : Int32 → Option fj_V → fj_M → Option fj_M) (a1 : Int32) (a2 : Int32) (s0 : Int32) (s1 : Int32) (M : fj_M) : Option fj_M := (if s1 < 0 ∨ 12 ≤ s1.toNatClampNeg then none else rec2 (a1 + 1) (some (.inl a2)) (M.1, (fj_u1 M.2 23 0 s1.toNatClampNeg s0)))
set_option maxRecDepth 40000 in
theorem de_93_184 (X : fj_X) (rec2 : Int32 → Option fj_V → fj_M → Option fj_M) (hrec2 : ∀ (a1 : Int32) (o2 : Option fj_V) (M : fj_M) (r : fj_M), rec2 a1 o2 M = some r → fj_ev X (93, 2, [some (.inr (20, 0)), some (.inl a1), o2], [], M) (none, r)) (a1 : Int32) (a2 : Int32) (s0 : Int32) (s1 : Int32) (M : fj_M) (r : fj_M) (h : dm_93_184 rec2 a1 a2 s0 s1 M = some r) : fj_ev X (93, 184, [some (.inr (20, 0)), some (.inl a1), some (.inl a2)], [(.inl s0), (.inl s1), (.inr (23, 0))], M) (none, r) := by
    unfold dm_93_184 at h
    by_cases hc1 : s1 < 0 ∨ 12 ≤ s1.toNatClampNeg
    · rw [if_pos hc1] at h
      cases h
    rw [if_neg hc1] at h
    refine fj_ast rfl rfl hc1 ?_
    refine fj_blk 2 (93, 2, [some (.inr (20, 0)), some (.inl (a1 + 1)), some (.inl a2)], [], (M.1, (fj_u1 M.2 23 0 s1.toNatClampNeg s0))) rfl ?_
    exact hrec2 (a1 + 1) (some (.inl a2)) (M.1, (fj_u1 M.2 23 0 s1.toNatClampNeg s0)) r h
def dm_93_164  (rec2 : Int32 → Option fj_V → fj_M → Option fj_M) (a1 : Int32) (a2 : Int32) (s0 : Int32) (M : fj_M) : Option fj_M := (if s0 = 0 then (if a1 < 0 ∨ 12 ≤ a1.toNatClampNeg then none else dm_93_184 rec2 a1 s0 (M.2 23 0 a1.toNatClampNeg) a1 M) else dm_93_184 rec2 a1 s0 1 a1 M)
set_option maxRecDepth 40000 in
theorem de_93_164 (X : fj_X) (rec2 : Int32 → Option fj_V → fj_M → Option fj_M) (hrec2 : ∀ (a1 : Int32) (o2 : Option fj_V) (M : fj_M) (r : fj_M), rec2 a1 o2 M = some r → fj_ev X (93, 2, [some (.inr (20, 0)), some (.inl a1), o2], [], M) (none, r)) (a1 : Int32) (a2 : Int32) (s0 : Int32) (M : fj_M) (r : fj_M) (h : dm_93_164 rec2 a1 a2 s0 M = some r) : fj_ev X (93, 164, [some (.inr (20, 0)), some (.inl a1), some (.inl a2)], [(.inl s0)], M) (none, r) := by
    unfold dm_93_164 at h
    refine fj_blk 5 (93, 171, [some (.inr (20, 0)), some (.inl a1), some (.inl s0)], [(.inl s0), (.inl a1), (.inr (23, 0))], M) rfl ?_
    by_cases hc1 : s0 = 0
    · rw [if_pos hc1] at h
      refine fj_bt rfl (decide_eq_true hc1) ?_
      refine fj_blk 3 (93, 183, [some (.inr (20, 0)), some (.inl a1), some (.inl s0)], [(.inl a1), (.inr (23, 0)), (.inl a1), (.inr (23, 0))], M) rfl ?_
      by_cases hc2 : a1 < 0 ∨ 12 ≤ a1.toNatClampNeg
      · rw [if_pos hc2] at h
        cases h
      rw [if_neg hc2] at h
      refine fj_ald rfl rfl hc2 ?_
      exact de_93_184 X rec2 hrec2 a1 s0 (M.2 23 0 a1.toNatClampNeg) a1 M r h
    · rw [if_neg hc1] at h
      refine fj_bf rfl (decide_eq_false hc1) ?_
      refine fj_blk 2 (93, 184, [some (.inr (20, 0)), some (.inl a1), some (.inl s0)], [(.inl 1), (.inl a1), (.inr (23, 0))], M) rfl ?_
      exact de_93_184 X rec2 hrec2 a1 s0 1 a1 M r h
def dm_93_159  (rec2 : Int32 → Option fj_V → fj_M → Option fj_M) (a1 : Int32) (a2 : Int32) (M : fj_M) : Option fj_M := dm_93_164 rec2 a1 a2 1 M
set_option maxRecDepth 40000 in
theorem de_93_159 (X : fj_X) (rec2 : Int32 → Option fj_V → fj_M → Option fj_M) (hrec2 : ∀ (a1 : Int32) (o2 : Option fj_V) (M : fj_M) (r : fj_M), rec2 a1 o2 M = some r → fj_ev X (93, 2, [some (.inr (20, 0)), some (.inl a1), o2], [], M) (none, r)) (a1 : Int32) (a2 : Int32) (M : fj_M) (r : fj_M) (h : dm_93_159 rec2 a1 a2 M = some r) : fj_ev X (93, 159, [some (.inr (20, 0)), some (.inl a1), some (.inl a2)], [], M) (none, r) := by
    unfold dm_93_159 at h
    refine fj_blk 2 (93, 164, [some (.inr (20, 0)), some (.inl a1), some (.inl a2)], [(.inl 1)], M) rfl ?_
    exact de_93_164 X rec2 hrec2 a1 a2 1 M r h
def dm_93_163  (rec2 : Int32 → Option fj_V → fj_M → Option fj_M) (a1 : Int32) (a2 : Int32) (M : fj_M) : Option fj_M := dm_93_164 rec2 a1 a2 0 M
set_option maxRecDepth 40000 in
theorem de_93_163 (X : fj_X) (rec2 : Int32 → Option fj_V → fj_M → Option fj_M) (hrec2 : ∀ (a1 : Int32) (o2 : Option fj_V) (M : fj_M) (r : fj_M), rec2 a1 o2 M = some r → fj_ev X (93, 2, [some (.inr (20, 0)), some (.inl a1), o2], [], M) (none, r)) (a1 : Int32) (a2 : Int32) (M : fj_M) (r : fj_M) (h : dm_93_163 rec2 a1 a2 M = some r) : fj_ev X (93, 163, [some (.inr (20, 0)), some (.inl a1), some (.inl a2)], [], M) (none, r) := by
    unfold dm_93_163 at h
    refine fj_blk 1 (93, 164, [some (.inr (20, 0)), some (.inl a1), some (.inl a2)], [(.inl 0)], M) rfl ?_
    exact de_93_164 X rec2 hrec2 a1 a2 0 M r h
def dm_93_130  (rec2 : Int32 → Option fj_V → fj_M → Option fj_M) (a1 : Int32) (a2 : Int32) (s0 : Int32) (M : fj_M) : Option fj_M := (if s0 = 0 then (if a1 < 0 ∨ 12 ≤ a1.toNatClampNeg then none else (if (M.2 23 0 a1.toNatClampNeg) = 6 then (if a1 < 0 ∨ 12 ≤ a1.toNatClampNeg then none else ((dm_82 (M.2 33 0 a1.toNatClampNeg) M).bind fun q5 => (if q5.1 = 0 then dm_93_159 rec2 a1 s0 q5.2 else dm_93_163 rec2 a1 s0 q5.2))) else dm_93_163 rec2 a1 s0 M)) else dm_93_159 rec2 a1 s0 M)
set_option maxRecDepth 40000 in
theorem de_93_130 (X : fj_X) (rec2 : Int32 → Option fj_V → fj_M → Option fj_M) (hrec2 : ∀ (a1 : Int32) (o2 : Option fj_V) (M : fj_M) (r : fj_M), rec2 a1 o2 M = some r → fj_ev X (93, 2, [some (.inr (20, 0)), some (.inl a1), o2], [], M) (none, r)) (a1 : Int32) (a2 : Int32) (s0 : Int32) (M : fj_M) (r : fj_M) (h : dm_93_130 rec2 a1 a2 s0 M = some r) : fj_ev X (93, 130, [some (.inr (20, 0)), some (.inl a1), some (.inl a2)], [(.inl s0)], M) (none, r) := by
    unfold dm_93_130 at h
    refine fj_blk 2 (93, 132, [some (.inr (20, 0)), some (.inl a1), some (.inl s0)], [(.inl s0)], M) rfl ?_
    by_cases hc1 : s0 = 0
    · rw [if_pos hc1] at h
      refine fj_bf rfl (fj_nf hc1) ?_
      refine fj_blk 3 (93, 140, [some (.inr (20, 0)), some (.inl a1), some (.inl s0)], [(.inl a1), (.inr (23, 0))], M) rfl ?_
      by_cases hc2 : a1 < 0 ∨ 12 ≤ a1.toNatClampNeg
      · rw [if_pos hc2] at h
        cases h
      rw [if_neg hc2] at h
      refine fj_ald rfl rfl hc2 ?_
      refine fj_blk 1 (93, 143, [some (.inr (20, 0)), some (.inl a1), some (.inl s0)], [(.inl 6), (.inl (M.2 23 0 a1.toNatClampNeg))], M) rfl ?_
      by_cases hc3 : (M.2 23 0 a1.toNatClampNeg) = 6
      · rw [if_pos hc3] at h
        refine fj_bf rfl (fj_nf hc3) ?_
        refine fj_blk 4 (93, 152, [some (.inr (20, 0)), some (.inl a1), some (.inl s0)], [(.inl a1), (.inr (33, 0)), (.inr (20, 0))], M) rfl ?_
        by_cases hc4 : a1 < 0 ∨ 12 ≤ a1.toNatClampNeg
        · rw [if_pos hc4] at h
          cases h
        rw [if_neg hc4] at h
        refine fj_ald rfl rfl hc4 ?_
        cases hq5 : dm_82 (M.2 33 0 a1.toNatClampNeg) M with
        | none => rw [hq5] at h; cases h
        | some q5 =>
          rw [hq5, Option.bind_some] at h
          refine fj_cl rfl (de_82 X (M.2 33 0 a1.toNatClampNeg) M _ hq5) ?_
          by_cases hc6 : q5.1 = 0
          · rw [if_pos hc6] at h
            refine fj_bf rfl (fj_nf hc6) ?_
            exact de_93_159 X rec2 hrec2 a1 s0 q5.2 r h
          · rw [if_neg hc6] at h
            refine fj_bt rfl (fj_nt hc6) ?_
            exact de_93_163 X rec2 hrec2 a1 s0 q5.2 r h
      · rw [if_neg hc3] at h
        refine fj_bt rfl (fj_nt hc3) ?_
        exact de_93_163 X rec2 hrec2 a1 s0 M r h
    · rw [if_neg hc1] at h
      refine fj_bt rfl (fj_nt hc1) ?_
      exact de_93_159 X rec2 hrec2 a1 s0 M r h
def dm_93_125  (rec2 : Int32 → Option fj_V → fj_M → Option fj_M) (a1 : Int32) (a2 : Int32) (M : fj_M) : Option fj_M := dm_93_130 rec2 a1 a2 1 M
set_option maxRecDepth 40000 in
theorem de_93_125 (X : fj_X) (rec2 : Int32 → Option fj_V → fj_M → Option fj_M) (hrec2 : ∀ (a1 : Int32) (o2 : Option fj_V) (M : fj_M) (r : fj_M), rec2 a1 o2 M = some r → fj_ev X (93, 2, [some (.inr (20, 0)), some (.inl a1), o2], [], M) (none, r)) (a1 : Int32) (a2 : Int32) (M : fj_M) (r : fj_M) (h : dm_93_125 rec2 a1 a2 M = some r) : fj_ev X (93, 125, [some (.inr (20, 0)), some (.inl a1), some (.inl a2)], [], M) (none, r) := by
    unfold dm_93_125 at h
    refine fj_blk 2 (93, 130, [some (.inr (20, 0)), some (.inl a1), some (.inl a2)], [(.inl 1)], M) rfl ?_
    exact de_93_130 X rec2 hrec2 a1 a2 1 M r h
def dm_93_129  (rec2 : Int32 → Option fj_V → fj_M → Option fj_M) (a1 : Int32) (a2 : Int32) (M : fj_M) : Option fj_M := dm_93_130 rec2 a1 a2 0 M
set_option maxRecDepth 40000 in
theorem de_93_129 (X : fj_X) (rec2 : Int32 → Option fj_V → fj_M → Option fj_M) (hrec2 : ∀ (a1 : Int32) (o2 : Option fj_V) (M : fj_M) (r : fj_M), rec2 a1 o2 M = some r → fj_ev X (93, 2, [some (.inr (20, 0)), some (.inl a1), o2], [], M) (none, r)) (a1 : Int32) (a2 : Int32) (M : fj_M) (r : fj_M) (h : dm_93_129 rec2 a1 a2 M = some r) : fj_ev X (93, 129, [some (.inr (20, 0)), some (.inl a1), some (.inl a2)], [], M) (none, r) := by
    unfold dm_93_129 at h
    refine fj_blk 1 (93, 130, [some (.inr (20, 0)), some (.inl a1), some (.inl a2)], [(.inl 0)], M) rfl ?_
    exact de_93_130 X rec2 hrec2 a1 a2 0 M r h
def dm_93_82  (rec2 : Int32 → Option fj_V → fj_M → Option fj_M) (a1 : Int32) (a2 : Int32) (s0 : Int32) (M : fj_M) : Option fj_M := (if s0 = 0 then (if a1 < 0 ∨ 12 ≤ a1.toNatClampNeg then none else (if (M.2 23 0 a1.toNatClampNeg) = 4 then (if a1 < 0 ∨ 12 ≤ a1.toNatClampNeg then none else (if (M.2 33 0 a1.toNatClampNeg) < 0 ∨ 6 ≤ (M.2 33 0 a1.toNatClampNeg).toNatClampNeg then none else (if 0 < (M.2 36 0 ((M.2 33 0 a1.toNatClampNeg).toNatClampNeg)) then dm_93_125 rec2 a1 s0 M else (if a1 < 0 ∨ 12 ≤ a1.toNatClampNeg then none else (if (M.2 34 0 a1.toNatClampNeg) < 0 ∨ 6 ≤ (M.2 34 0 a1.toNatClampNeg).toNatClampNeg then none else (if (M.2 36 0 ((M.2 34 0 a1.toNatClampNeg).toNatClampNeg)) ≤ 0 then dm_93_129 rec2 a1 s0 M else dm_93_125 rec2 a1 s0 M)))))) else dm_93_129 rec2 a1 s0 M)) else dm_93_125 rec2 a1 s0 M)
set_option maxRecDepth 40000 in
theorem de_93_82 (X : fj_X) (rec2 : Int32 → Option fj_V → fj_M → Option fj_M) (hrec2 : ∀ (a1 : Int32) (o2 : Option fj_V) (M : fj_M) (r : fj_M), rec2 a1 o2 M = some r → fj_ev X (93, 2, [some (.inr (20, 0)), some (.inl a1), o2], [], M) (none, r)) (a1 : Int32) (a2 : Int32) (s0 : Int32) (M : fj_M) (r : fj_M) (h : dm_93_82 rec2 a1 a2 s0 M = some r) : fj_ev X (93, 82, [some (.inr (20, 0)), some (.inl a1), some (.inl a2)], [(.inl s0)], M) (none, r) := by
    unfold dm_93_82 at h
    refine fj_blk 2 (93, 84, [some (.inr (20, 0)), some (.inl a1), some (.inl s0)], [(.inl s0)], M) rfl ?_
    by_cases hc1 : s0 = 0
    · rw [if_pos hc1] at h
      refine fj_bf rfl (fj_nf hc1) ?_
      refine fj_blk 3 (93, 92, [some (.inr (20, 0)), some (.inl a1), some (.inl s0)], [(.inl a1), (.inr (23, 0))], M) rfl ?_
      by_cases hc2 : a1 < 0 ∨ 12 ≤ a1.toNatClampNeg
      · rw [if_pos hc2] at h
        cases h
      rw [if_neg hc2] at h
      refine fj_ald rfl rfl hc2 ?_
      refine fj_blk 1 (93, 94, [some (.inr (20, 0)), some (.inl a1), some (.inl s0)], [(.inl 4), (.inl (M.2 23 0 a1.toNatClampNeg))], M) rfl ?_
      by_cases hc3 : (M.2 23 0 a1.toNatClampNeg) = 4
      · rw [if_pos hc3] at h
        refine fj_bf rfl (fj_nf hc3) ?_
        refine fj_blk 5 (93, 106, [some (.inr (20, 0)), some (.inl a1), some (.inl s0)], [(.inl a1), (.inr (33, 0)), (.inr (36, 0))], M) rfl ?_
        by_cases hc4 : a1 < 0 ∨ 12 ≤ a1.toNatClampNeg
        · rw [if_pos hc4] at h
          cases h
        rw [if_neg hc4] at h
        refine fj_ald rfl rfl hc4 ?_
        by_cases hc5 : (M.2 33 0 a1.toNatClampNeg) < 0 ∨ 6 ≤ (M.2 33 0 a1.toNatClampNeg).toNatClampNeg
        · rw [if_pos hc5] at h
          cases h
        rw [if_neg hc5] at h
        refine fj_ald rfl rfl hc5 ?_
        by_cases hc6 : 0 < (M.2 36 0 ((M.2 33 0 a1.toNatClampNeg).toNatClampNeg))
        · rw [if_pos hc6] at h
          refine fj_bt rfl (decide_eq_true hc6) ?_
          exact de_93_125 X rec2 hrec2 a1 s0 M r h
        · rw [if_neg hc6] at h
          refine fj_bf rfl (decide_eq_false hc6) ?_
          refine fj_blk 5 (93, 120, [some (.inr (20, 0)), some (.inl a1), some (.inl s0)], [(.inl a1), (.inr (34, 0)), (.inr (36, 0))], M) rfl ?_
          by_cases hc7 : a1 < 0 ∨ 12 ≤ a1.toNatClampNeg
          · rw [if_pos hc7] at h
            cases h
          rw [if_neg hc7] at h
          refine fj_ald rfl rfl hc7 ?_
          by_cases hc8 : (M.2 34 0 a1.toNatClampNeg) < 0 ∨ 6 ≤ (M.2 34 0 a1.toNatClampNeg).toNatClampNeg
          · rw [if_pos hc8] at h
            cases h
          rw [if_neg hc8] at h
          refine fj_ald rfl rfl hc8 ?_
          by_cases hc9 : (M.2 36 0 ((M.2 34 0 a1.toNatClampNeg).toNatClampNeg)) ≤ 0
          · rw [if_pos hc9] at h
            refine fj_bt rfl (decide_eq_true hc9) ?_
            exact de_93_129 X rec2 hrec2 a1 s0 M r h
          · rw [if_neg hc9] at h
            refine fj_bf rfl (decide_eq_false hc9) ?_
            exact de_93_125 X rec2 hrec2 a1 s0 M r h
      · rw [if_neg hc3] at h
        refine fj_bt rfl (fj_nt hc3) ?_
        exact de_93_129 X rec2 hrec2 a1 s0 M r h
    · rw [if_neg hc1] at h
      refine fj_bt rfl (fj_nt hc1) ?_
      exact de_93_125 X rec2 hrec2 a1 s0 M r h
def dm_93_77  (rec2 : Int32 → Option fj_V → fj_M → Option fj_M) (a1 : Int32) (a2 : Int32) (M : fj_M) : Option fj_M := dm_93_82 rec2 a1 a2 1 M
set_option maxRecDepth 40000 in
theorem de_93_77 (X : fj_X) (rec2 : Int32 → Option fj_V → fj_M → Option fj_M) (hrec2 : ∀ (a1 : Int32) (o2 : Option fj_V) (M : fj_M) (r : fj_M), rec2 a1 o2 M = some r → fj_ev X (93, 2, [some (.inr (20, 0)), some (.inl a1), o2], [], M) (none, r)) (a1 : Int32) (a2 : Int32) (M : fj_M) (r : fj_M) (h : dm_93_77 rec2 a1 a2 M = some r) : fj_ev X (93, 77, [some (.inr (20, 0)), some (.inl a1), some (.inl a2)], [], M) (none, r) := by
    unfold dm_93_77 at h
    refine fj_blk 2 (93, 82, [some (.inr (20, 0)), some (.inl a1), some (.inl a2)], [(.inl 1)], M) rfl ?_
    exact de_93_82 X rec2 hrec2 a1 a2 1 M r h
def dm_93_81  (rec2 : Int32 → Option fj_V → fj_M → Option fj_M) (a1 : Int32) (a2 : Int32) (M : fj_M) : Option fj_M := dm_93_82 rec2 a1 a2 0 M
set_option maxRecDepth 40000 in
theorem de_93_81 (X : fj_X) (rec2 : Int32 → Option fj_V → fj_M → Option fj_M) (hrec2 : ∀ (a1 : Int32) (o2 : Option fj_V) (M : fj_M) (r : fj_M), rec2 a1 o2 M = some r → fj_ev X (93, 2, [some (.inr (20, 0)), some (.inl a1), o2], [], M) (none, r)) (a1 : Int32) (a2 : Int32) (M : fj_M) (r : fj_M) (h : dm_93_81 rec2 a1 a2 M = some r) : fj_ev X (93, 81, [some (.inr (20, 0)), some (.inl a1), some (.inl a2)], [], M) (none, r) := by
    unfold dm_93_81 at h
    refine fj_blk 1 (93, 82, [some (.inr (20, 0)), some (.inl a1), some (.inl a2)], [(.inl 0)], M) rfl ?_
    exact de_93_82 X rec2 hrec2 a1 a2 0 M r h
def dm_93_48  (rec2 : Int32 → Option fj_V → fj_M → Option fj_M) (a1 : Int32) (o2 : Option fj_V) (s0 : Int32) (M : fj_M) : Option fj_M := (if s0 = 0 then (if a1 < 0 ∨ 12 ≤ a1.toNatClampNeg then none else (if (M.2 23 0 a1.toNatClampNeg) = 3 then (if a1 < 0 ∨ 12 ≤ a1.toNatClampNeg then none else (if (M.2 33 0 a1.toNatClampNeg) < 0 ∨ 6 ≤ (M.2 33 0 a1.toNatClampNeg).toNatClampNeg then none else (if (M.2 36 0 ((M.2 33 0 a1.toNatClampNeg).toNatClampNeg)) ≤ 0 then dm_93_81 rec2 a1 s0 M else dm_93_77 rec2 a1 s0 M))) else dm_93_81 rec2 a1 s0 M)) else dm_93_77 rec2 a1 s0 M)
set_option maxRecDepth 40000 in
theorem de_93_48 (X : fj_X) (rec2 : Int32 → Option fj_V → fj_M → Option fj_M) (hrec2 : ∀ (a1 : Int32) (o2 : Option fj_V) (M : fj_M) (r : fj_M), rec2 a1 o2 M = some r → fj_ev X (93, 2, [some (.inr (20, 0)), some (.inl a1), o2], [], M) (none, r)) (a1 : Int32) (o2 : Option fj_V) (s0 : Int32) (M : fj_M) (r : fj_M) (h : dm_93_48 rec2 a1 o2 s0 M = some r) : fj_ev X (93, 48, [some (.inr (20, 0)), some (.inl a1), o2], [(.inl s0)], M) (none, r) := by
    unfold dm_93_48 at h
    refine fj_blk 2 (93, 50, [some (.inr (20, 0)), some (.inl a1), some (.inl s0)], [(.inl s0)], M) rfl ?_
    by_cases hc1 : s0 = 0
    · rw [if_pos hc1] at h
      refine fj_bf rfl (fj_nf hc1) ?_
      refine fj_blk 3 (93, 58, [some (.inr (20, 0)), some (.inl a1), some (.inl s0)], [(.inl a1), (.inr (23, 0))], M) rfl ?_
      by_cases hc2 : a1 < 0 ∨ 12 ≤ a1.toNatClampNeg
      · rw [if_pos hc2] at h
        cases h
      rw [if_neg hc2] at h
      refine fj_ald rfl rfl hc2 ?_
      refine fj_blk 1 (93, 60, [some (.inr (20, 0)), some (.inl a1), some (.inl s0)], [(.inl 3), (.inl (M.2 23 0 a1.toNatClampNeg))], M) rfl ?_
      by_cases hc3 : (M.2 23 0 a1.toNatClampNeg) = 3
      · rw [if_pos hc3] at h
        refine fj_bf rfl (fj_nf hc3) ?_
        refine fj_blk 5 (93, 72, [some (.inr (20, 0)), some (.inl a1), some (.inl s0)], [(.inl a1), (.inr (33, 0)), (.inr (36, 0))], M) rfl ?_
        by_cases hc4 : a1 < 0 ∨ 12 ≤ a1.toNatClampNeg
        · rw [if_pos hc4] at h
          cases h
        rw [if_neg hc4] at h
        refine fj_ald rfl rfl hc4 ?_
        by_cases hc5 : (M.2 33 0 a1.toNatClampNeg) < 0 ∨ 6 ≤ (M.2 33 0 a1.toNatClampNeg).toNatClampNeg
        · rw [if_pos hc5] at h
          cases h
        rw [if_neg hc5] at h
        refine fj_ald rfl rfl hc5 ?_
        by_cases hc6 : (M.2 36 0 ((M.2 33 0 a1.toNatClampNeg).toNatClampNeg)) ≤ 0
        · rw [if_pos hc6] at h
          refine fj_bt rfl (decide_eq_true hc6) ?_
          exact de_93_81 X rec2 hrec2 a1 s0 M r h
        · rw [if_neg hc6] at h
          refine fj_bf rfl (decide_eq_false hc6) ?_
          exact de_93_77 X rec2 hrec2 a1 s0 M r h
      · rw [if_neg hc3] at h
        refine fj_bt rfl (fj_nt hc3) ?_
        exact de_93_81 X rec2 hrec2 a1 s0 M r h
    · rw [if_neg hc1] at h
      refine fj_bt rfl (fj_nt hc1) ?_
      exact de_93_77 X rec2 hrec2 a1 s0 M r h
def dm_93_47  (rec2 : Int32 → Option fj_V → fj_M → Option fj_M) (a1 : Int32) (o2 : Option fj_V) (M : fj_M) : Option fj_M := dm_93_48 rec2 a1 o2 0 M
set_option maxRecDepth 40000 in
theorem de_93_47 (X : fj_X) (rec2 : Int32 → Option fj_V → fj_M → Option fj_M) (hrec2 : ∀ (a1 : Int32) (o2 : Option fj_V) (M : fj_M) (r : fj_M), rec2 a1 o2 M = some r → fj_ev X (93, 2, [some (.inr (20, 0)), some (.inl a1), o2], [], M) (none, r)) (a1 : Int32) (o2 : Option fj_V) (M : fj_M) (r : fj_M) (h : dm_93_47 rec2 a1 o2 M = some r) : fj_ev X (93, 47, [some (.inr (20, 0)), some (.inl a1), o2], [], M) (none, r) := by
    unfold dm_93_47 at h
    refine fj_blk 1 (93, 48, [some (.inr (20, 0)), some (.inl a1), o2], [(.inl 0)], M) rfl ?_
    exact de_93_48 X rec2 hrec2 a1 o2 0 M r h
def dm_93_2  : Nat → Int32 → Option fj_V → fj_M → Option fj_M
  | 0, _, _, _ => none
  | n + 1, a1, o2, M => (if 12 ≤ a1 then some M else (if a1 < 0 ∨ 12 ≤ a1.toNatClampNeg then none else (if (M.2 23 0 a1.toNatClampNeg) = 2 then (if a1 < 0 ∨ 12 ≤ a1.toNatClampNeg then none else (if (M.2 33 0 a1.toNatClampNeg) < 0 ∨ 6 ≤ (M.2 33 0 a1.toNatClampNeg).toNatClampNeg then none else (if a1 < 0 ∨ 12 ≤ a1.toNatClampNeg then none else (if (M.2 33 0 a1.toNatClampNeg) < 0 ∨ 6 ≤ (M.2 33 0 a1.toNatClampNeg).toNatClampNeg then none else (if (M.2 35 0 ((M.2 33 0 a1.toNatClampNeg).toNatClampNeg)) ≤ (M.2 36 0 ((M.2 33 0 a1.toNatClampNeg).toNatClampNeg)) then dm_93_47 (dm_93_2 n) a1 o2 M else dm_93_48 (dm_93_2 n) a1 o2 1 M))))) else dm_93_47 (dm_93_2 n) a1 o2 M)))
set_option maxRecDepth 40000 in
theorem de_93_2 (X : fj_X) : ∀ (n : Nat) (a1 : Int32) (o2 : Option fj_V) (M : fj_M) (r : fj_M), dm_93_2 n a1 o2 M = some r → fj_ev X (93, 2, [some (.inr (20, 0)), some (.inl a1), o2], [], M) (none, r)
  | 0, _, _, _, r, h => by cases h
  | n + 1, a1, o2, M, r, h => by
    unfold dm_93_2 at h
    refine fj_blk 2 (93, 5, [some (.inr (20, 0)), some (.inl a1), o2], [(.inl 12), (.inl a1)], M) rfl ?_
    by_cases hc1 : 12 ≤ a1
    · rw [if_pos hc1] at h
      refine fj_bt rfl (decide_eq_true hc1) ?_
      cases h
      exact fj_rv rfl rfl
    · rw [if_neg hc1] at h
      refine fj_bf rfl (decide_eq_false hc1) ?_
      refine fj_blk 3 (93, 13, [some (.inr (20, 0)), some (.inl a1), o2], [(.inl a1), (.inr (23, 0))], M) rfl ?_
      by_cases hc2 : a1 < 0 ∨ 12 ≤ a1.toNatClampNeg
      · rw [if_pos hc2] at h
        cases h
      rw [if_neg hc2] at h
      refine fj_ald rfl rfl hc2 ?_
      refine fj_blk 1 (93, 15, [some (.inr (20, 0)), some (.inl a1), o2], [(.inl 2), (.inl (M.2 23 0 a1.toNatClampNeg))], M) rfl ?_
      by_cases hc3 : (M.2 23 0 a1.toNatClampNeg) = 2
      · rw [if_pos hc3] at h
        refine fj_bf rfl (fj_nf hc3) ?_
        refine fj_blk 5 (93, 27, [some (.inr (20, 0)), some (.inl a1), o2], [(.inl a1), (.inr (33, 0)), (.inr (36, 0))], M) rfl ?_
        by_cases hc4 : a1 < 0 ∨ 12 ≤ a1.toNatClampNeg
        · rw [if_pos hc4] at h
          cases h
        rw [if_neg hc4] at h
        refine fj_ald rfl rfl hc4 ?_
        by_cases hc5 : (M.2 33 0 a1.toNatClampNeg) < 0 ∨ 6 ≤ (M.2 33 0 a1.toNatClampNeg).toNatClampNeg
        · rw [if_pos hc5] at h
          cases h
        rw [if_neg hc5] at h
        refine fj_ald rfl rfl hc5 ?_
        refine fj_blk 5 (93, 38, [some (.inr (20, 0)), some (.inl a1), o2], [(.inl a1), (.inr (33, 0)), (.inr (35, 0)), (.inl (M.2 36 0 ((M.2 33 0 a1.toNatClampNeg).toNatClampNeg)))], M) rfl ?_
        by_cases hc6 : a1 < 0 ∨ 12 ≤ a1.toNatClampNeg
        · rw [if_pos hc6] at h
          cases h
        rw [if_neg hc6] at h
        refine fj_ald rfl rfl hc6 ?_
        by_cases hc7 : (M.2 33 0 a1.toNatClampNeg) < 0 ∨ 6 ≤ (M.2 33 0 a1.toNatClampNeg).toNatClampNeg
        · rw [if_pos hc7] at h
          cases h
        rw [if_neg hc7] at h
        refine fj_ald rfl rfl hc7 ?_
        by_cases hc8 : (M.2 35 0 ((M.2 33 0 a1.toNatClampNeg).toNatClampNeg)) ≤ (M.2 36 0 ((M.2 33 0 a1.toNatClampNeg).toNatClampNeg))
        · rw [if_pos hc8] at h
          refine fj_bt rfl (decide_eq_true hc8) ?_
          exact de_93_47 X (dm_93_2 n) (de_93_2 X n) a1 o2 M r h
        · rw [if_neg hc8] at h
          refine fj_bf rfl (decide_eq_false hc8) ?_
          refine fj_blk 2 (93, 48, [some (.inr (20, 0)), some (.inl a1), o2], [(.inl 1)], M) rfl ?_
          exact de_93_48 X (dm_93_2 n) (de_93_2 X n) a1 o2 1 M r h
      · rw [if_neg hc3] at h
        refine fj_bt rfl (fj_nt hc3) ?_
        exact de_93_47 X (dm_93_2 n) (de_93_2 X n) a1 o2 M r h
/-- X6_wake -/
def dm_93  (M : fj_M) : Option fj_M := dm_93_2 40 0 none M
set_option maxRecDepth 40000 in
theorem de_93 (X : fj_X)  (M : fj_M) (r : fj_M) (h : dm_93  M = some r) : fj_ev X (93, 0, [some (.inr (20, 0)), none, none], [], M) (none, r) := by
    unfold dm_93 at h
    refine fj_blk 2 (93, 2, [some (.inr (20, 0)), some (.inl 0), none], [], M) rfl ?_
    exact de_93_2 X 40 0 none M r h
/-- X6_spawn -/
def dm_85 (a1 : Int32) (a2 : Int32) (M : fj_M) : Option (Int32 × fj_M) := ((dm_78 a1 0 511 M).bind fun q1 => (if q1.1 = 0 then some ((-2), q1.2) else ((dm_83 q1.2).bind fun q3 => (if 0 ≤ q3.1 then ((dm_84 q3.1 a1 a2 q3.2).bind fun q5 => ((dm_93 q5).bind fun q6 => some (q3.1, q6))) else some ((-4), q3.2)))))
set_option maxRecDepth 40000 in
theorem de_85 (X : fj_X) (a1 : Int32) (a2 : Int32) (M : fj_M) (r : (Int32 × fj_M)) (h : dm_85 a1 a2 M = some r) : fj_ev X (85, 0, [some (.inr (20, 0)), some (.inl a1), some (.inl a2), none], [], M) (some r.1, r.2) := by
    unfold dm_85 at h
    refine fj_blk 3 (85, 5, [some (.inr (20, 0)), some (.inl a1), some (.inl a2), none], [(.inl 511), (.inl 0), (.inl a1)], M) rfl ?_
    cases hq1 : dm_78 a1 0 511 M with
    | none => rw [hq1] at h; cases h
    | some q1 =>
      rw [hq1, Option.bind_some] at h
      refine fj_cl rfl (de_78 X a1 0 511 M _ hq1) ?_
      by_cases hc2 : q1.1 = 0
      · rw [if_pos hc2] at h
        refine fj_bf rfl (fj_nf hc2) ?_
        refine fj_blk 1 (85, 13, [some (.inr (20, 0)), some (.inl a1), some (.inl a2), none], [(.inl (-2))], q1.2) rfl ?_
        cases h
        exact fj_ri rfl rfl
      · rw [if_neg hc2] at h
        refine fj_bt rfl (fj_nt hc2) ?_
        refine fj_blk 1 (85, 15, [some (.inr (20, 0)), some (.inl a1), some (.inl a2), none], [(.inr (20, 0))], q1.2) rfl ?_
        cases hq3 : dm_83 q1.2 with
        | none => rw [hq3] at h; cases h
        | some q3 =>
          rw [hq3, Option.bind_some] at h
          refine fj_cl rfl (de_83 X q1.2 _ hq3) ?_
          refine fj_blk 2 (85, 20, [some (.inr (20, 0)), some (.inl a1), some (.inl a2), some (.inl q3.1)], [(.inl q3.1)], q3.2) rfl ?_
          by_cases hc4 : 0 ≤ q3.1
          · rw [if_pos hc4] at h
            refine fj_bt rfl (decide_eq_true hc4) ?_
            refine fj_blk 4 (85, 30, [some (.inr (20, 0)), some (.inl a1), some (.inl a2), some (.inl q3.1)], [(.inl a2), (.inl a1), (.inl q3.1), (.inr (20, 0))], q3.2) rfl ?_
            cases hq5 : dm_84 q3.1 a1 a2 q3.2 with
            | none => rw [hq5] at h; cases h
            | some q5 =>
              rw [hq5, Option.bind_some] at h
              refine fj_cl rfl (de_84 X q3.1 a1 a2 q3.2 _ hq5) ?_
              refine fj_blk 1 (85, 34, [some (.inr (20, 0)), some (.inl a1), some (.inl a2), some (.inl q3.1)], [(.inr (20, 0))], q5) rfl ?_
              cases hq6 : dm_93 q5 with
              | none => rw [hq6] at h; cases h
              | some q6 =>
                rw [hq6, Option.bind_some] at h
                refine fj_cl rfl (de_93 X q5 _ hq6) ?_
                refine fj_blk 1 (85, 38, [some (.inr (20, 0)), some (.inl a1), some (.inl a2), some (.inl q3.1)], [(.inl q3.1)], q6) rfl ?_
                cases h
                exact fj_ri rfl rfl
          · rw [if_neg hc4] at h
            refine fj_bf rfl (decide_eq_false hc4) ?_
            refine fj_blk 1 (85, 25, [some (.inr (20, 0)), some (.inl a1), some (.inl a2), some (.inl q3.1)], [(.inl (-4))], q3.2) rfl ?_
            cases h
            exact fj_ri rfl rfl
/-- X6_quantum -/
def dm_86 (a1 : Int32) (M : fj_M) : Option (Int32 × fj_M) := ((dm_78 a1 1 50 M).bind fun q1 => (if q1.1 = 0 then some ((-2), q1.2) else some (q1.2.2 20 0 22, (q1.2.1, (fj_u1 q1.2.2 20 0 22 a1)))))
set_option maxRecDepth 40000 in
theorem de_86 (X : fj_X) (a1 : Int32) (M : fj_M) (r : (Int32 × fj_M)) (h : dm_86 a1 M = some r) : fj_ev X (86, 0, [some (.inr (20, 0)), some (.inl a1), none], [], M) (some r.1, r.2) := by
    unfold dm_86 at h
    refine fj_blk 3 (86, 4, [some (.inr (20, 0)), some (.inl a1), none], [(.inl 50), (.inl 1), (.inl a1)], M) rfl ?_
    cases hq1 : dm_78 a1 1 50 M with
    | none => rw [hq1] at h; cases h
    | some q1 =>
      rw [hq1, Option.bind_some] at h
      refine fj_cl rfl (de_78 X a1 1 50 M _ hq1) ?_
      by_cases hc2 : q1.1 = 0
      · rw [if_pos hc2] at h
        refine fj_bf rfl (fj_nf hc2) ?_
        refine fj_blk 1 (86, 12, [some (.inr (20, 0)), some (.inl a1), none], [(.inl (-2))], q1.2) rfl ?_
        cases h
        exact fj_ri rfl rfl
      · rw [if_neg hc2] at h
        refine fj_bt rfl (fj_nt hc2) ?_
        refine fj_blk 7 (86, 24, [some (.inr (20, 0)), some (.inl a1), some (.inl (q1.2.2 20 0 22))], [(.inl (q1.2.2 20 0 22))], (q1.2.1, (fj_u1 q1.2.2 20 0 22 a1))) rfl ?_
        cases h
        exact fj_ri rfl rfl
/-- X6_isChannel -/
def dm_87 (a0 : Int32) (M : fj_M) : Option (Int32 × fj_M) := ((dm_78 a0 0 5 M).bind fun q1 => (if q1.1 = 0 ∨ q1.1 = 1 then some (q1.1, q1.2) else none))
set_option maxRecDepth 40000 in
theorem de_87 (X : fj_X) (a0 : Int32) (M : fj_M) (r : (Int32 × fj_M)) (h : dm_87 a0 M = some r) : fj_ev X (87, 0, [some (.inl a0)], [], M) (some r.1, r.2) := by
    unfold dm_87 at h
    refine fj_blk 3 (87, 3, [some (.inl a0)], [(.inl 5), (.inl 0), (.inl a0)], M) rfl ?_
    cases hq1 : dm_78 a0 0 5 M with
    | none => rw [hq1] at h; cases h
    | some q1 =>
      rw [hq1, Option.bind_some] at h
      refine fj_cl rfl (de_78 X a0 0 5 M _ hq1) ?_
      by_cases hc2 : q1.1 = 0 ∨ q1.1 = 1
      · rw [if_pos hc2] at h
        cases h
        exact fj_rz rfl rfl hc2
      · rw [if_neg hc2] at h
        cases h
/-- X6_size -/
def dm_88 (a1 : Int32) (a2 : Int32) (M : fj_M) : Option (Int32 × fj_M) := ((dm_87 a1 M).bind fun q1 => (if q1.1 = 0 then some ((-1), q1.2) else ((dm_78 a2 1 8 q1.2).bind fun q3 => (if q3.1 = 0 then some ((-2), q3.2) else (if a1 < 0 ∨ 6 ≤ a1.toNatClampNeg then none else (if (q3.2.2 36 0 a1.toNatClampNeg) ≤ a2 then (if a1 < 0 ∨ 6 ≤ a1.toNatClampNeg then none else (if a1 < 0 ∨ 6 ≤ a1.toNatClampNeg then none else ((dm_93 (q3.2.1, (fj_u1 q3.2.2 35 0 a1.toNatClampNeg a2))).bind fun q9 => some (q3.2.2 35 0 a1.toNatClampNeg, q9)))) else some ((-2), q3.2)))))))
set_option maxRecDepth 40000 in
theorem de_88 (X : fj_X) (a1 : Int32) (a2 : Int32) (M : fj_M) (r : (Int32 × fj_M)) (h : dm_88 a1 a2 M = some r) : fj_ev X (88, 0, [some (.inr (20, 0)), some (.inl a1), some (.inl a2), none], [], M) (some r.1, r.2) := by
    unfold dm_88 at h
    refine fj_blk 1 (88, 1, [some (.inr (20, 0)), some (.inl a1), some (.inl a2), none], [(.inl a1)], M) rfl ?_
    cases hq1 : dm_87 a1 M with
    | none => rw [hq1] at h; cases h
    | some q1 =>
      rw [hq1, Option.bind_some] at h
      refine fj_cl rfl (de_87 X a1 M _ hq1) ?_
      by_cases hc2 : q1.1 = 0
      · rw [if_pos hc2] at h
        refine fj_bf rfl (fj_nf hc2) ?_
        refine fj_blk 1 (88, 8, [some (.inr (20, 0)), some (.inl a1), some (.inl a2), none], [(.inl (-1))], q1.2) rfl ?_
        cases h
        exact fj_ri rfl rfl
      · rw [if_neg hc2] at h
        refine fj_bt rfl (fj_nt hc2) ?_
        refine fj_blk 3 (88, 13, [some (.inr (20, 0)), some (.inl a1), some (.inl a2), none], [(.inl 8), (.inl 1), (.inl a2)], q1.2) rfl ?_
        cases hq3 : dm_78 a2 1 8 q1.2 with
        | none => rw [hq3] at h; cases h
        | some q3 =>
          rw [hq3, Option.bind_some] at h
          refine fj_cl rfl (de_78 X a2 1 8 q1.2 _ hq3) ?_
          by_cases hc4 : q3.1 = 0
          · rw [if_pos hc4] at h
            refine fj_bt rfl (decide_eq_true hc4) ?_
            refine fj_blk 1 (88, 31, [some (.inr (20, 0)), some (.inl a1), some (.inl a2), none], [(.inl (-2))], q3.2) rfl ?_
            cases h
            exact fj_ri rfl rfl
          · rw [if_neg hc4] at h
            refine fj_bf rfl (decide_eq_false hc4) ?_
            refine fj_blk 4 (88, 25, [some (.inr (20, 0)), some (.inl a1), some (.inl a2), none], [(.inl a1), (.inr (36, 0)), (.inl a2)], q3.2) rfl ?_
            by_cases hc5 : a1 < 0 ∨ 6 ≤ a1.toNatClampNeg
            · rw [if_pos hc5] at h
              cases h
            rw [if_neg hc5] at h
            refine fj_ald rfl rfl hc5 ?_
            by_cases hc6 : (q3.2.2 36 0 a1.toNatClampNeg) ≤ a2
            · rw [if_pos hc6] at h
              refine fj_bt rfl (decide_eq_true hc6) ?_
              refine fj_blk 3 (88, 37, [some (.inr (20, 0)), some (.inl a1), some (.inl a2), none], [(.inl a1), (.inr (35, 0))], q3.2) rfl ?_
              by_cases hc7 : a1 < 0 ∨ 6 ≤ a1.toNatClampNeg
              · rw [if_pos hc7] at h
                cases h
              rw [if_neg hc7] at h
              refine fj_ald rfl rfl hc7 ?_
              refine fj_blk 5 (88, 45, [some (.inr (20, 0)), some (.inl a1), some (.inl a2), some (.inl (q3.2.2 35 0 a1.toNatClampNeg))], [(.inl a2), (.inl a1), (.inr (35, 0))], q3.2) rfl ?_
              by_cases hc8 : a1 < 0 ∨ 6 ≤ a1.toNatClampNeg
              · rw [if_pos hc8] at h
                cases h
              rw [if_neg hc8] at h
              refine fj_ast rfl rfl hc8 ?_
              refine fj_blk 1 (88, 47, [some (.inr (20, 0)), some (.inl a1), some (.inl a2), some (.inl (q3.2.2 35 0 a1.toNatClampNeg))], [(.inr (20, 0))], (q3.2.1, (fj_u1 q3.2.2 35 0 a1.toNatClampNeg a2))) rfl ?_
              cases hq9 : dm_93 (q3.2.1, (fj_u1 q3.2.2 35 0 a1.toNatClampNeg a2)) with
              | none => rw [hq9] at h; cases h
              | some q9 =>
                rw [hq9, Option.bind_some] at h
                refine fj_cl rfl (de_93 X (q3.2.1, (fj_u1 q3.2.2 35 0 a1.toNatClampNeg a2)) _ hq9) ?_
                refine fj_blk 1 (88, 51, [some (.inr (20, 0)), some (.inl a1), some (.inl a2), some (.inl (q3.2.2 35 0 a1.toNatClampNeg))], [(.inl (q3.2.2 35 0 a1.toNatClampNeg))], q9) rfl ?_
                cases h
                exact fj_ri rfl rfl
            · rw [if_neg hc6] at h
              refine fj_bf rfl (decide_eq_false hc6) ?_
              refine fj_blk 1 (88, 31, [some (.inr (20, 0)), some (.inl a1), some (.inl a2), none], [(.inl (-2))], q3.2) rfl ?_
              cases h
              exact fj_ri rfl rfl
/-- X6_comes -/
def dm_89 (a1 : Int32) (a2 : Int32) (M : fj_M) : Option fj_M := (if a1 < 0 ∨ 6 ≤ a1.toNatClampNeg then none else (if ((8 * a1) + (M.2 36 0 a1.toNatClampNeg)) < 0 ∨ 48 ≤ ((8 * a1) + (M.2 36 0 a1.toNatClampNeg)).toNatClampNeg then none else (if a1 < 0 ∨ 6 ≤ a1.toNatClampNeg then none else (if a1 < 0 ∨ 6 ≤ a1.toNatClampNeg then none else some (M.1, (fj_u1 (fj_u1 M.2 37 0 (((8 * a1) + (M.2 36 0 a1.toNatClampNeg)).toNatClampNeg) a2) 36 0 a1.toNatClampNeg (((fj_u1 M.2 37 0 (((8 * a1) + (M.2 36 0 a1.toNatClampNeg)).toNatClampNeg) a2) 36 0 a1.toNatClampNeg) + 1)))))))
set_option maxRecDepth 40000 in
theorem de_89 (X : fj_X) (a1 : Int32) (a2 : Int32) (M : fj_M) (r : fj_M) (h : dm_89 a1 a2 M = some r) : fj_ev X (89, 0, [some (.inr (20, 0)), some (.inl a1), some (.inl a2)], [], M) (none, r) := by
    unfold dm_89 at h
    refine fj_blk 8 (89, 13, [some (.inr (20, 0)), some (.inl a1), some (.inl a2)], [(.inl a1), (.inr (36, 0)), (.inl (8 * a1)), (.inr (37, 0))], M) rfl ?_
    by_cases hc1 : a1 < 0 ∨ 6 ≤ a1.toNatClampNeg
    · rw [if_pos hc1] at h
      cases h
    rw [if_neg hc1] at h
    refine fj_ald rfl rfl hc1 ?_
    refine fj_blk 2 (89, 16, [some (.inr (20, 0)), some (.inl a1), some (.inl a2)], [(.inl a2), (.inl ((8 * a1) + (M.2 36 0 a1.toNatClampNeg))), (.inr (37, 0))], M) rfl ?_
    by_cases hc2 : ((8 * a1) + (M.2 36 0 a1.toNatClampNeg)) < 0 ∨ 48 ≤ ((8 * a1) + (M.2 36 0 a1.toNatClampNeg)).toNatClampNeg
    · rw [if_pos hc2] at h
      cases h
    rw [if_neg hc2] at h
    refine fj_ast rfl rfl hc2 ?_
    refine fj_blk 4 (89, 23, [some (.inr (20, 0)), some (.inl a1), some (.inl a2)], [(.inl a1), (.inr (36, 0)), (.inl a1), (.inr (36, 0))], (M.1, (fj_u1 M.2 37 0 (((8 * a1) + (M.2 36 0 a1.toNatClampNeg)).toNatClampNeg) a2))) rfl ?_
    by_cases hc3 : a1 < 0 ∨ 6 ≤ a1.toNatClampNeg
    · rw [if_pos hc3] at h
      cases h
    rw [if_neg hc3] at h
    refine fj_ald rfl rfl hc3 ?_
    refine fj_blk 2 (89, 26, [some (.inr (20, 0)), some (.inl a1), some (.inl a2)], [(.inl (((fj_u1 M.2 37 0 (((8 * a1) + (M.2 36 0 a1.toNatClampNeg)).toNatClampNeg) a2) 36 0 a1.toNatClampNeg) + 1)), (.inl a1), (.inr (36, 0))], (M.1, (fj_u1 M.2 37 0 (((8 * a1) + (M.2 36 0 a1.toNatClampNeg)).toNatClampNeg) a2))) rfl ?_
    by_cases hc4 : a1 < 0 ∨ 6 ≤ a1.toNatClampNeg
    · rw [if_pos hc4] at h
      cases h
    rw [if_neg hc4] at h
    refine fj_ast rfl rfl hc4 ?_
    cases h
    exact fj_rv rfl rfl
def dm_90_22  : Nat → Int32 → Int32 → Int32 → fj_M → Option (Int32 × fj_M)
  | 0, _, _, _, _ => none
  | n + 1, a1, a2, a3, M => (if a1 < 0 ∨ 6 ≤ a1.toNatClampNeg then none else (if (M.2 36 0 a1.toNatClampNeg) ≤ a3 then some (a2, M) else (if (((8 * a1) + a3) + 1) < 0 ∨ 48 ≤ (((8 * a1) + a3) + 1).toNatClampNeg then none else (if ((8 * a1) + a3) < 0 ∨ 48 ≤ ((8 * a1) + a3).toNatClampNeg then none else dm_90_22 n a1 a2 (a3 + 1) (M.1, (fj_u1 M.2 37 0 (((8 * a1) + a3).toNatClampNeg) (M.2 37 0 ((((8 * a1) + a3) + 1).toNatClampNeg))))))))
set_option maxRecDepth 40000 in
theorem de_90_22 (X : fj_X) : ∀ (n : Nat) (a1 : Int32) (a2 : Int32) (a3 : Int32) (M : fj_M) (r : (Int32 × fj_M)), dm_90_22 n a1 a2 a3 M = some r → fj_ev X (90, 22, [some (.inr (20, 0)), some (.inl a1), some (.inl a2), some (.inl a3)], [], M) (some r.1, r.2)
  | 0, _, _, _, _, r, h => by cases h
  | n + 1, a1, a2, a3, M, r, h => by
    unfold dm_90_22 at h
    refine fj_blk 4 (90, 28, [some (.inr (20, 0)), some (.inl a1), some (.inl a2), some (.inl a3)], [(.inl a1), (.inr (36, 0)), (.inl a3)], M) rfl ?_
    by_cases hc1 : a1 < 0 ∨ 6 ≤ a1.toNatClampNeg
    · rw [if_pos hc1] at h
      cases h
    rw [if_neg hc1] at h
    refine fj_ald rfl rfl hc1 ?_
    by_cases hc2 : (M.2 36 0 a1.toNatClampNeg) ≤ a3
    · rw [if_pos hc2] at h
      refine fj_bt rfl (decide_eq_true hc2) ?_
      refine fj_blk 1 (90, 63, [some (.inr (20, 0)), some (.inl a1), some (.inl a2), some (.inl a3)], [(.inl a2)], M) rfl ?_
      cases h
      exact fj_ri rfl rfl
    · rw [if_neg hc2] at h
      refine fj_bf rfl (decide_eq_false hc2) ?_
      refine fj_blk 16 (90, 54, [some (.inr (20, 0)), some (.inl a1), some (.inl a2), some (.inl a3)], [(.inl (((8 * a1) + a3) + 1)), (.inr (37, 0)), (.inl ((8 * a1) + a3)), (.inr (37, 0))], M) rfl ?_
      by_cases hc3 : (((8 * a1) + a3) + 1) < 0 ∨ 48 ≤ (((8 * a1) + a3) + 1).toNatClampNeg
      · rw [if_pos hc3] at h
        cases h
      rw [if_neg hc3] at h
      refine fj_ald rfl rfl hc3 ?_
      by_cases hc4 : ((8 * a1) + a3) < 0 ∨ 48 ≤ ((8 * a1) + a3).toNatClampNeg
      · rw [if_pos hc4] at h
        cases h
      rw [if_neg hc4] at h
      refine fj_ast rfl rfl hc4 ?_
      refine fj_blk 2 (90, 22, [some (.inr (20, 0)), some (.inl a1), some (.inl a2), some (.inl (a3 + 1))], [], (M.1, (fj_u1 M.2 37 0 (((8 * a1) + a3).toNatClampNeg) (M.2 37 0 ((((8 * a1) + a3) + 1).toNatClampNeg))))) rfl ?_
      exact de_90_22 X n a1 a2 (a3 + 1) (M.1, (fj_u1 M.2 37 0 (((8 * a1) + a3).toNatClampNeg) (M.2 37 0 ((((8 * a1) + a3) + 1).toNatClampNeg)))) r h
/-- X6_goes -/
def dm_90 (a1 : Int32) (M : fj_M) : Option (Int32 × fj_M) := (if (8 * a1) < 0 ∨ 48 ≤ (8 * a1).toNatClampNeg then none else (if a1 < 0 ∨ 6 ≤ a1.toNatClampNeg then none else (if a1 < 0 ∨ 6 ≤ a1.toNatClampNeg then none else dm_90_22 40 a1 (M.2 37 0 ((8 * a1).toNatClampNeg)) 0 (M.1, (fj_u1 M.2 36 0 a1.toNatClampNeg ((M.2 36 0 a1.toNatClampNeg) - 1))))))
set_option maxRecDepth 40000 in
theorem de_90 (X : fj_X) (a1 : Int32) (M : fj_M) (r : (Int32 × fj_M)) (h : dm_90 a1 M = some r) : fj_ev X (90, 0, [some (.inr (20, 0)), some (.inl a1), none, none], [], M) (some r.1, r.2) := by
    unfold dm_90 at h
    refine fj_blk 5 (90, 8, [some (.inr (20, 0)), some (.inl a1), none, none], [(.inl (8 * a1)), (.inr (37, 0))], M) rfl ?_
    by_cases hc1 : (8 * a1) < 0 ∨ 48 ≤ (8 * a1).toNatClampNeg
    · rw [if_pos hc1] at h
      cases h
    rw [if_neg hc1] at h
    refine fj_ald rfl rfl hc1 ?_
    refine fj_blk 5 (90, 16, [some (.inr (20, 0)), some (.inl a1), some (.inl (M.2 37 0 ((8 * a1).toNatClampNeg))), none], [(.inl a1), (.inr (36, 0)), (.inl a1), (.inr (36, 0))], M) rfl ?_
    by_cases hc2 : a1 < 0 ∨ 6 ≤ a1.toNatClampNeg
    · rw [if_pos hc2] at h
      cases h
    rw [if_neg hc2] at h
    refine fj_ald rfl rfl hc2 ?_
    refine fj_blk 2 (90, 19, [some (.inr (20, 0)), some (.inl a1), some (.inl (M.2 37 0 ((8 * a1).toNatClampNeg))), none], [(.inl ((M.2 36 0 a1.toNatClampNeg) - 1)), (.inl a1), (.inr (36, 0))], M) rfl ?_
    by_cases hc3 : a1 < 0 ∨ 6 ≤ a1.toNatClampNeg
    · rw [if_pos hc3] at h
      cases h
    rw [if_neg hc3] at h
    refine fj_ast rfl rfl hc3 ?_
    refine fj_blk 2 (90, 22, [some (.inr (20, 0)), some (.inl a1), some (.inl (M.2 37 0 ((8 * a1).toNatClampNeg))), some (.inl 0)], [], (M.1, (fj_u1 M.2 36 0 a1.toNatClampNeg ((M.2 36 0 a1.toNatClampNeg) - 1)))) rfl ?_
    exact de_90_22 X 40 a1 (M.2 37 0 ((8 * a1).toNatClampNeg)) 0 (M.1, (fj_u1 M.2 36 0 a1.toNatClampNeg ((M.2 36 0 a1.toNatClampNeg) - 1))) r h
/-- X6_put -/
def dm_91 (a1 : Int32) (a2 : Int32) (M : fj_M) : Option (Int32 × fj_M) := ((dm_87 a1 M).bind fun q1 => (if q1.1 = 0 then some ((-1), q1.2) else (if a1 < 0 ∨ 6 ≤ a1.toNatClampNeg then none else (if a1 < 0 ∨ 6 ≤ a1.toNatClampNeg then none else (if (q1.2.2 36 0 a1.toNatClampNeg) = (q1.2.2 35 0 a1.toNatClampNeg) then some ((-4), q1.2) else ((dm_89 a1 a2 q1.2).bind fun q6 => (if a1 < 0 ∨ 6 ≤ a1.toNatClampNeg then none else ((dm_93 q6).bind fun q8 => some (q6.2 36 0 a1.toNatClampNeg, q8)))))))))
set_option maxRecDepth 40000 in
theorem de_91 (X : fj_X) (a1 : Int32) (a2 : Int32) (M : fj_M) (r : (Int32 × fj_M)) (h : dm_91 a1 a2 M = some r) : fj_ev X (91, 0, [some (.inr (20, 0)), some (.inl a1), some (.inl a2), none], [], M) (some r.1, r.2) := by
    unfold dm_91 at h
    refine fj_blk 1 (91, 1, [some (.inr (20, 0)), some (.inl a1), some (.inl a2), none], [(.inl a1)], M) rfl ?_
    cases hq1 : dm_87 a1 M with
    | none => rw [hq1] at h; cases h
    | some q1 =>
      rw [hq1, Option.bind_some] at h
      refine fj_cl rfl (de_87 X a1 M _ hq1) ?_
      by_cases hc2 : q1.1 = 0
      · rw [if_pos hc2] at h
        refine fj_bf rfl (fj_nf hc2) ?_
        refine fj_blk 1 (91, 8, [some (.inr (20, 0)), some (.inl a1), some (.inl a2), none], [(.inl (-1))], q1.2) rfl ?_
        cases h
        exact fj_ri rfl rfl
      · rw [if_neg hc2] at h
        refine fj_bt rfl (fj_nt hc2) ?_
        refine fj_blk 3 (91, 14, [some (.inr (20, 0)), some (.inl a1), some (.inl a2), none], [(.inl a1), (.inr (36, 0))], q1.2) rfl ?_
        by_cases hc3 : a1 < 0 ∨ 6 ≤ a1.toNatClampNeg
        · rw [if_pos hc3] at h
          cases h
        rw [if_neg hc3] at h
        refine fj_ald rfl rfl hc3 ?_
        refine fj_blk 3 (91, 20, [some (.inr (20, 0)), some (.inl a1), some (.inl a2), none], [(.inl a1), (.inr (35, 0)), (.inl (q1.2.2 36 0 a1.toNatClampNeg))], q1.2) rfl ?_
        by_cases hc4 : a1 < 0 ∨ 6 ≤ a1.toNatClampNeg
        · rw [if_pos hc4] at h
          cases h
        rw [if_neg hc4] at h
        refine fj_ald rfl rfl hc4 ?_
        by_cases hc5 : (q1.2.2 36 0 a1.toNatClampNeg) = (q1.2.2 35 0 a1.toNatClampNeg)
        · rw [if_pos hc5] at h
          refine fj_bf rfl (fj_nf hc5) ?_
          refine fj_blk 1 (91, 26, [some (.inr (20, 0)), some (.inl a1), some (.inl a2), none], [(.inl (-4))], q1.2) rfl ?_
          cases h
          exact fj_ri rfl rfl
        · rw [if_neg hc5] at h
          refine fj_bt rfl (fj_nt hc5) ?_
          refine fj_blk 3 (91, 30, [some (.inr (20, 0)), some (.inl a1), some (.inl a2), none], [(.inl a2), (.inl a1), (.inr (20, 0))], q1.2) rfl ?_
          cases hq6 : dm_89 a1 a2 q1.2 with
          | none => rw [hq6] at h; cases h
          | some q6 =>
            rw [hq6, Option.bind_some] at h
            refine fj_cl rfl (de_89 X a1 a2 q1.2 _ hq6) ?_
            refine fj_blk 3 (91, 38, [some (.inr (20, 0)), some (.inl a1), some (.inl a2), none], [(.inl a1), (.inr (36, 0))], q6) rfl ?_
            by_cases hc7 : a1 < 0 ∨ 6 ≤ a1.toNatClampNeg
            · rw [if_pos hc7] at h
              cases h
            rw [if_neg hc7] at h
            refine fj_ald rfl rfl hc7 ?_
            refine fj_blk 2 (91, 41, [some (.inr (20, 0)), some (.inl a1), some (.inl a2), some (.inl (q6.2 36 0 a1.toNatClampNeg))], [(.inr (20, 0))], q6) rfl ?_
            cases hq8 : dm_93 q6 with
            | none => rw [hq8] at h; cases h
            | some q8 =>
              rw [hq8, Option.bind_some] at h
              refine fj_cl rfl (de_93 X q6 _ hq8) ?_
              refine fj_blk 1 (91, 45, [some (.inr (20, 0)), some (.inl a1), some (.inl a2), some (.inl (q6.2 36 0 a1.toNatClampNeg))], [(.inl (q6.2 36 0 a1.toNatClampNeg))], q8) rfl ?_
              cases h
              exact fj_ri rfl rfl
/-- X6_take -/
def dm_92 (a1 : Int32) (M : fj_M) : Option (Int32 × fj_M) := ((dm_87 a1 M).bind fun q1 => (if q1.1 = 0 then some (0, q1.2) else (if a1 < 0 ∨ 6 ≤ a1.toNatClampNeg then none else (if (q1.2.2 36 0 a1.toNatClampNeg) = 0 then some (0, q1.2) else ((dm_90 a1 q1.2).bind fun q5 => ((dm_93 q5.2).bind fun q6 => some (q5.1, q6)))))))
set_option maxRecDepth 40000 in
theorem de_92 (X : fj_X) (a1 : Int32) (M : fj_M) (r : (Int32 × fj_M)) (h : dm_92 a1 M = some r) : fj_ev X (92, 0, [some (.inr (20, 0)), some (.inl a1), none], [], M) (some r.1, r.2) := by
    unfold dm_92 at h
    refine fj_blk 1 (92, 1, [some (.inr (20, 0)), some (.inl a1), none], [(.inl a1)], M) rfl ?_
    cases hq1 : dm_87 a1 M with
    | none => rw [hq1] at h; cases h
    | some q1 =>
      rw [hq1, Option.bind_some] at h
      refine fj_cl rfl (de_87 X a1 M _ hq1) ?_
      by_cases hc2 : q1.1 = 0
      · rw [if_pos hc2] at h
        refine fj_bt rfl (decide_eq_true hc2) ?_
        refine fj_blk 1 (92, 17, [some (.inr (20, 0)), some (.inl a1), none], [(.inl 0)], q1.2) rfl ?_
        cases h
        exact fj_ri rfl rfl
      · rw [if_neg hc2] at h
        refine fj_bf rfl (decide_eq_false hc2) ?_
        refine fj_blk 3 (92, 12, [some (.inr (20, 0)), some (.inl a1), none], [(.inl a1), (.inr (36, 0))], q1.2) rfl ?_
        by_cases hc3 : a1 < 0 ∨ 6 ≤ a1.toNatClampNeg
        · rw [if_pos hc3] at h
          cases h
        rw [if_neg hc3] at h
        refine fj_ald rfl rfl hc3 ?_
        by_cases hc4 : (q1.2.2 36 0 a1.toNatClampNeg) = 0
        · rw [if_pos hc4] at h
          refine fj_bf rfl (fj_nf hc4) ?_
          refine fj_blk 1 (92, 17, [some (.inr (20, 0)), some (.inl a1), none], [(.inl 0)], q1.2) rfl ?_
          cases h
          exact fj_ri rfl rfl
        · rw [if_neg hc4] at h
          refine fj_bt rfl (fj_nt hc4) ?_
          refine fj_blk 2 (92, 20, [some (.inr (20, 0)), some (.inl a1), none], [(.inl a1), (.inr (20, 0))], q1.2) rfl ?_
          cases hq5 : dm_90 a1 q1.2 with
          | none => rw [hq5] at h; cases h
          | some q5 =>
            rw [hq5, Option.bind_some] at h
            refine fj_cl rfl (de_90 X a1 q1.2 _ hq5) ?_
            refine fj_blk 2 (92, 25, [some (.inr (20, 0)), some (.inl a1), some (.inl q5.1)], [(.inr (20, 0))], q5.2) rfl ?_
            cases hq6 : dm_93 q5.2 with
            | none => rw [hq6] at h; cases h
            | some q6 =>
              rw [hq6, Option.bind_some] at h
              refine fj_cl rfl (de_93 X q5.2 _ hq6) ?_
              refine fj_blk 1 (92, 29, [some (.inr (20, 0)), some (.inl a1), some (.inl q5.1)], [(.inl q5.1)], q6) rfl ?_
              cases h
              exact fj_ri rfl rfl
def dm_94_83  (a1 : Int32) (a2 : Int32) (a3 : Int32) (M : fj_M) : Option fj_M := (if a1 < 0 ∨ 12 ≤ a1.toNatClampNeg then none else (if a1 < 0 ∨ 12 ≤ a1.toNatClampNeg then none else (if ((fj_u1 (fj_u1 M.2 23 0 a1.toNatClampNeg 8) 32 0 a1.toNatClampNeg (-a2)) 20 0 27) < 0 ∨ 12 ≤ ((fj_u1 (fj_u1 M.2 23 0 a1.toNatClampNeg 8) 32 0 a1.toNatClampNeg (-a2)) 20 0 27).toNatClampNeg then none else some (M.1, (fj_u1 (fj_u1 (fj_u1 (fj_u1 M.2 23 0 a1.toNatClampNeg 8) 32 0 a1.toNatClampNeg (-a2)) 39 0 (((fj_u1 (fj_u1 M.2 23 0 a1.toNatClampNeg 8) 32 0 a1.toNatClampNeg (-a2)) 20 0 27).toNatClampNeg) a1) 20 0 27 (((fj_u1 (fj_u1 (fj_u1 M.2 23 0 a1.toNatClampNeg 8) 32 0 a1.toNatClampNeg (-a2)) 39 0 (((fj_u1 (fj_u1 M.2 23 0 a1.toNatClampNeg 8) 32 0 a1.toNatClampNeg (-a2)) 20 0 27).toNatClampNeg) a1) 20 0 27) + 1))))))
set_option maxRecDepth 40000 in
theorem de_94_83 (X : fj_X) (a1 : Int32) (a2 : Int32) (a3 : Int32) (M : fj_M) (r : fj_M) (h : dm_94_83 a1 a2 a3 M = some r) : fj_ev X (94, 83, [some (.inr (20, 0)), some (.inl a1), some (.inl a2), some (.inl a3)], [], M) (none, r) := by
    unfold dm_94_83 at h
    refine fj_blk 4 (94, 90, [some (.inr (20, 0)), some (.inl a1), some (.inl a2), some (.inl a3)], [(.inl 8), (.inl a1), (.inr (23, 0))], M) rfl ?_
    by_cases hc1 : a1 < 0 ∨ 12 ≤ a1.toNatClampNeg
    · rw [if_pos hc1] at h
      cases h
    rw [if_neg hc1] at h
    refine fj_ast rfl rfl hc1 ?_
    refine fj_blk 5 (94, 98, [some (.inr (20, 0)), some (.inl a1), some (.inl a2), some (.inl a3)], [(.inl (-a2)), (.inl a1), (.inr (32, 0))], (M.1, (fj_u1 M.2 23 0 a1.toNatClampNeg 8))) rfl ?_
    by_cases hc2 : a1 < 0 ∨ 12 ≤ a1.toNatClampNeg
    · rw [if_pos hc2] at h
      cases h
    rw [if_neg hc2] at h
    refine fj_ast rfl rfl hc2 ?_
    refine fj_blk 5 (94, 108, [some (.inr (20, 0)), some (.inl a1), some (.inl a2), some (.inl a3)], [(.inl a1), (.inl ((fj_u1 (fj_u1 M.2 23 0 a1.toNatClampNeg 8) 32 0 a1.toNatClampNeg (-a2)) 20 0 27)), (.inr (39, 0))], (M.1, (fj_u1 (fj_u1 M.2 23 0 a1.toNatClampNeg 8) 32 0 a1.toNatClampNeg (-a2)))) rfl ?_
    by_cases hc3 : ((fj_u1 (fj_u1 M.2 23 0 a1.toNatClampNeg 8) 32 0 a1.toNatClampNeg (-a2)) 20 0 27) < 0 ∨ 12 ≤ ((fj_u1 (fj_u1 M.2 23 0 a1.toNatClampNeg 8) 32 0 a1.toNatClampNeg (-a2)) 20 0 27).toNatClampNeg
    · rw [if_pos hc3] at h
      cases h
    rw [if_neg hc3] at h
    refine fj_ast rfl rfl hc3 ?_
    refine fj_blk 6 (94, 119, [some (.inr (20, 0)), some (.inl a1), some (.inl a2), some (.inl a3)], [], (M.1, (fj_u1 (fj_u1 (fj_u1 (fj_u1 M.2 23 0 a1.toNatClampNeg 8) 32 0 a1.toNatClampNeg (-a2)) 39 0 (((fj_u1 (fj_u1 M.2 23 0 a1.toNatClampNeg 8) 32 0 a1.toNatClampNeg (-a2)) 20 0 27).toNatClampNeg) a1) 20 0 27 (((fj_u1 (fj_u1 (fj_u1 M.2 23 0 a1.toNatClampNeg 8) 32 0 a1.toNatClampNeg (-a2)) 39 0 (((fj_u1 (fj_u1 M.2 23 0 a1.toNatClampNeg 8) 32 0 a1.toNatClampNeg (-a2)) 20 0 27).toNatClampNeg) a1) 20 0 27) + 1)))) rfl ?_
    cases h
    exact fj_rv rfl rfl
/-- X6_fault -/
def dm_94 (a1 : Int32) (a2 : Int32) (a3 : Int32) (M : fj_M) : Option fj_M := (if a1 < 0 ∨ 12 ≤ a1.toNatClampNeg then none else (if a3 = 0 then dm_94_83 a1 a2 a3 (M.1, (fj_u1 (fj_u1 M.2 20 0 25 ((M.2 20 0 25) + 1)) 31 0 a1.toNatClampNeg 0)) else (if a1 < 0 ∨ 12 ≤ a1.toNatClampNeg then none else (if ((fj_u1 (fj_u1 M.2 20 0 25 ((M.2 20 0 25) + 1)) 31 0 a1.toNatClampNeg 0) 29 0 a1.toNatClampNeg) < 0 then dm_94_83 a1 a2 a3 (M.1, (fj_u1 (fj_u1 M.2 20 0 25 ((M.2 20 0 25) + 1)) 31 0 a1.toNatClampNeg 0)) else (if a1 < 0 ∨ 12 ≤ a1.toNatClampNeg then none else (if a1 < 0 ∨ 12 ≤ a1.toNatClampNeg then none else (if a1 < 0 ∨ 12 ≤ a1.toNatClampNeg then none else (if a1 < 0 ∨ 12 ≤ a1.toNatClampNeg then none else (if (24 * a1) < 0 ∨ 288 ≤ (24 * a1).toNatClampNeg then none else (if a1 < 0 ∨ 12 ≤ a1.toNatClampNeg then none else (if a1 < 0 ∨ 12 ≤ a1.toNatClampNeg then none else some (M.1, (fj_u1 (fj_u1 (fj_u1 (fj_u1 (fj_u1 (fj_u1 (fj_u1 (fj_u1 M.2 20 0 25 ((M.2 20 0 25) + 1)) 31 0 a1.toNatClampNeg 0) 23 0 a1.toNatClampNeg 1) 24 0 a1.toNatClampNeg ((fj_u1 (fj_u1 (fj_u1 M.2 20 0 25 ((M.2 20 0 25) + 1)) 31 0 a1.toNatClampNeg 0) 23 0 a1.toNatClampNeg 1) 29 0 a1.toNatClampNeg)) 25 0 a1.toNatClampNeg 1) 26 0 ((24 * a1).toNatClampNeg) a2) 27 0 a1.toNatClampNeg 0) 29 0 a1.toNatClampNeg (-1))))))))))))))
set_option maxRecDepth 40000 in
theorem de_94 (X : fj_X) (a1 : Int32) (a2 : Int32) (a3 : Int32) (M : fj_M) (r : fj_M) (h : dm_94 a1 a2 a3 M = some r) : fj_ev X (94, 0, [some (.inr (20, 0)), some (.inl a1), some (.inl a2), some (.inl a3)], [], M) (none, r) := by
    unfold dm_94 at h
    refine fj_blk 10 (94, 16, [some (.inr (20, 0)), some (.inl a1), some (.inl a2), some (.inl a3)], [(.inl 0), (.inl a1), (.inr (31, 0))], (M.1, (fj_u1 M.2 20 0 25 ((M.2 20 0 25) + 1)))) rfl ?_
    by_cases hc1 : a1 < 0 ∨ 12 ≤ a1.toNatClampNeg
    · rw [if_pos hc1] at h
      cases h
    rw [if_neg hc1] at h
    refine fj_ast rfl rfl hc1 ?_
    refine fj_blk 1 (94, 18, [some (.inr (20, 0)), some (.inl a1), some (.inl a2), some (.inl a3)], [(.inl a3)], (M.1, (fj_u1 (fj_u1 M.2 20 0 25 ((M.2 20 0 25) + 1)) 31 0 a1.toNatClampNeg 0))) rfl ?_
    by_cases hc2 : a3 = 0
    · rw [if_pos hc2] at h
      refine fj_bt rfl (decide_eq_true hc2) ?_
      exact de_94_83 X a1 a2 a3 (M.1, (fj_u1 (fj_u1 M.2 20 0 25 ((M.2 20 0 25) + 1)) 31 0 a1.toNatClampNeg 0)) r h
    · rw [if_neg hc2] at h
      refine fj_bf rfl (decide_eq_false hc2) ?_
      refine fj_blk 3 (94, 26, [some (.inr (20, 0)), some (.inl a1), some (.inl a2), some (.inl a3)], [(.inl a1), (.inr (29, 0))], (M.1, (fj_u1 (fj_u1 M.2 20 0 25 ((M.2 20 0 25) + 1)) 31 0 a1.toNatClampNeg 0))) rfl ?_
      by_cases hc3 : a1 < 0 ∨ 12 ≤ a1.toNatClampNeg
      · rw [if_pos hc3] at h
        cases h
      rw [if_neg hc3] at h
      refine fj_ald rfl rfl hc3 ?_
      by_cases hc4 : ((fj_u1 (fj_u1 M.2 20 0 25 ((M.2 20 0 25) + 1)) 31 0 a1.toNatClampNeg 0) 29 0 a1.toNatClampNeg) < 0
      · rw [if_pos hc4] at h
        refine fj_bt rfl (decide_eq_true hc4) ?_
        exact de_94_83 X a1 a2 a3 (M.1, (fj_u1 (fj_u1 M.2 20 0 25 ((M.2 20 0 25) + 1)) 31 0 a1.toNatClampNeg 0)) r h
      · rw [if_neg hc4] at h
        refine fj_bf rfl (decide_eq_false hc4) ?_
        refine fj_blk 4 (94, 36, [some (.inr (20, 0)), some (.inl a1), some (.inl a2), some (.inl a3)], [(.inl 1), (.inl a1), (.inr (23, 0))], (M.1, (fj_u1 (fj_u1 M.2 20 0 25 ((M.2 20 0 25) + 1)) 31 0 a1.toNatClampNeg 0))) rfl ?_
        by_cases hc5 : a1 < 0 ∨ 12 ≤ a1.toNatClampNeg
        · rw [if_pos hc5] at h
          cases h
        rw [if_neg hc5] at h
        refine fj_ast rfl rfl hc5 ?_
        refine fj_blk 6 (94, 47, [some (.inr (20, 0)), some (.inl a1), some (.inl a2), some (.inl a3)], [(.inl a1), (.inr (29, 0)), (.inl a1), (.inr (24, 0))], (M.1, (fj_u1 (fj_u1 (fj_u1 M.2 20 0 25 ((M.2 20 0 25) + 1)) 31 0 a1.toNatClampNeg 0) 23 0 a1.toNatClampNeg 1))) rfl ?_
        by_cases hc6 : a1 < 0 ∨ 12 ≤ a1.toNatClampNeg
        · rw [if_pos hc6] at h
          cases h
        rw [if_neg hc6] at h
        refine fj_ald rfl rfl hc6 ?_
        by_cases hc7 : a1 < 0 ∨ 12 ≤ a1.toNatClampNeg
        · rw [if_pos hc7] at h
          cases h
        rw [if_neg hc7] at h
        refine fj_ast rfl rfl hc7 ?_
        refine fj_blk 4 (94, 55, [some (.inr (20, 0)), some (.inl a1), some (.inl a2), some (.inl a3)], [(.inl 1), (.inl a1), (.inr (25, 0))], (M.1, (fj_u1 (fj_u1 (fj_u1 (fj_u1 M.2 20 0 25 ((M.2 20 0 25) + 1)) 31 0 a1.toNatClampNeg 0) 23 0 a1.toNatClampNeg 1) 24 0 a1.toNatClampNeg ((fj_u1 (fj_u1 (fj_u1 M.2 20 0 25 ((M.2 20 0 25) + 1)) 31 0 a1.toNatClampNeg 0) 23 0 a1.toNatClampNeg 1) 29 0 a1.toNatClampNeg)))) rfl ?_
        by_cases hc8 : a1 < 0 ∨ 12 ≤ a1.toNatClampNeg
        · rw [if_pos hc8] at h
          cases h
        rw [if_neg hc8] at h
        refine fj_ast rfl rfl hc8 ?_
        refine fj_blk 6 (94, 65, [some (.inr (20, 0)), some (.inl a1), some (.inl a2), some (.inl a3)], [(.inl a2), (.inl (24 * a1)), (.inr (26, 0))], (M.1, (fj_u1 (fj_u1 (fj_u1 (fj_u1 (fj_u1 M.2 20 0 25 ((M.2 20 0 25) + 1)) 31 0 a1.toNatClampNeg 0) 23 0 a1.toNatClampNeg 1) 24 0 a1.toNatClampNeg ((fj_u1 (fj_u1 (fj_u1 M.2 20 0 25 ((M.2 20 0 25) + 1)) 31 0 a1.toNatClampNeg 0) 23 0 a1.toNatClampNeg 1) 29 0 a1.toNatClampNeg)) 25 0 a1.toNatClampNeg 1))) rfl ?_
        by_cases hc9 : (24 * a1) < 0 ∨ 288 ≤ (24 * a1).toNatClampNeg
        · rw [if_pos hc9] at h
          cases h
        rw [if_neg hc9] at h
        refine fj_ast rfl rfl hc9 ?_
        refine fj_blk 4 (94, 72, [some (.inr (20, 0)), some (.inl a1), some (.inl a2), some (.inl a3)], [(.inl 0), (.inl a1), (.inr (27, 0))], (M.1, (fj_u1 (fj_u1 (fj_u1 (fj_u1 (fj_u1 (fj_u1 M.2 20 0 25 ((M.2 20 0 25) + 1)) 31 0 a1.toNatClampNeg 0) 23 0 a1.toNatClampNeg 1) 24 0 a1.toNatClampNeg ((fj_u1 (fj_u1 (fj_u1 M.2 20 0 25 ((M.2 20 0 25) + 1)) 31 0 a1.toNatClampNeg 0) 23 0 a1.toNatClampNeg 1) 29 0 a1.toNatClampNeg)) 25 0 a1.toNatClampNeg 1) 26 0 ((24 * a1).toNatClampNeg) a2))) rfl ?_
        by_cases hc10 : a1 < 0 ∨ 12 ≤ a1.toNatClampNeg
        · rw [if_pos hc10] at h
          cases h
        rw [if_neg hc10] at h
        refine fj_ast rfl rfl hc10 ?_
        refine fj_blk 4 (94, 79, [some (.inr (20, 0)), some (.inl a1), some (.inl a2), some (.inl a3)], [(.inl (-1)), (.inl a1), (.inr (29, 0))], (M.1, (fj_u1 (fj_u1 (fj_u1 (fj_u1 (fj_u1 (fj_u1 (fj_u1 M.2 20 0 25 ((M.2 20 0 25) + 1)) 31 0 a1.toNatClampNeg 0) 23 0 a1.toNatClampNeg 1) 24 0 a1.toNatClampNeg ((fj_u1 (fj_u1 (fj_u1 M.2 20 0 25 ((M.2 20 0 25) + 1)) 31 0 a1.toNatClampNeg 0) 23 0 a1.toNatClampNeg 1) 29 0 a1.toNatClampNeg)) 25 0 a1.toNatClampNeg 1) 26 0 ((24 * a1).toNatClampNeg) a2) 27 0 a1.toNatClampNeg 0))) rfl ?_
        by_cases hc11 : a1 < 0 ∨ 12 ≤ a1.toNatClampNeg
        · rw [if_pos hc11] at h
          cases h
        rw [if_neg hc11] at h
        refine fj_ast rfl rfl hc11 ?_
        refine fj_blk 1 (94, 119, [some (.inr (20, 0)), some (.inl a1), some (.inl a2), some (.inl a3)], [], (M.1, (fj_u1 (fj_u1 (fj_u1 (fj_u1 (fj_u1 (fj_u1 (fj_u1 (fj_u1 M.2 20 0 25 ((M.2 20 0 25) + 1)) 31 0 a1.toNatClampNeg 0) 23 0 a1.toNatClampNeg 1) 24 0 a1.toNatClampNeg ((fj_u1 (fj_u1 (fj_u1 M.2 20 0 25 ((M.2 20 0 25) + 1)) 31 0 a1.toNatClampNeg 0) 23 0 a1.toNatClampNeg 1) 29 0 a1.toNatClampNeg)) 25 0 a1.toNatClampNeg 1) 26 0 ((24 * a1).toNatClampNeg) a2) 27 0 a1.toNatClampNeg 0) 29 0 a1.toNatClampNeg (-1)))) rfl ?_
        cases h
        exact fj_rv rfl rfl
def dm_95_53  (rec2 : Int32 → Option fj_V → fj_M → Option fj_M) (rec12 : Int32 → Int32 → fj_M → Option fj_M) (a1 : Int32) (a2 : Int32) (M : fj_M) : Option fj_M := rec12 a1 (a2 + 1) M
set_option maxRecDepth 40000 in
theorem de_95_53 (X : fj_X) (rec2 : Int32 → Option fj_V → fj_M → Option fj_M) (rec12 : Int32 → Int32 → fj_M → Option fj_M) (hrec2 : ∀ (a1 : Int32) (o2 : Option fj_V) (M : fj_M) (r : fj_M), rec2 a1 o2 M = some r → fj_ev X (95, 2, [some (.inr (20, 0)), some (.inl a1), o2], [], M) (none, r)) (hrec12 : ∀ (a1 : Int32) (a2 : Int32) (M : fj_M) (r : fj_M), rec12 a1 a2 M = some r → fj_ev X (95, 12, [some (.inr (20, 0)), some (.inl a1), some (.inl a2)], [], M) (none, r)) (a1 : Int32) (a2 : Int32) (M : fj_M) (r : fj_M) (h : dm_95_53 rec2 rec12 a1 a2 M = some r) : fj_ev X (95, 53, [some (.inr (20, 0)), some (.inl a1), some (.inl a2)], [], M) (none, r) := by
    unfold dm_95_53 at h
    refine fj_blk 2 (95, 12, [some (.inr (20, 0)), some (.inl a1), some (.inl (a2 + 1))], [], M) rfl ?_
    exact hrec12 a1 (a2 + 1) M r h
def dm_95_12  (rec2 : Int32 → Option fj_V → fj_M → Option fj_M) : Nat → Int32 → Int32 → fj_M → Option fj_M
  | 0, _, _, _ => none
  | n + 1, a1, a2, M => (if 12 ≤ a2 then rec2 (a1 + 1) (some (.inl a2)) M else ((dm_82 a2 M).bind fun q2 => (if q2.1 = 0 then dm_95_53 rec2 (dm_95_12 rec2 n) a1 a2 q2.2 else (if a2 < 0 ∨ 12 ≤ a2.toNatClampNeg then none else (if a1 < 0 ∨ 12 ≤ a1.toNatClampNeg then none else (if (((q2.2.2 30 0 a2.toNatClampNeg) >>> ((q2.2.2 39 0 a1.toNatClampNeg) &&& 31)) &&& 1) = 1 then ((dm_94 a2 8 1 q2.2).bind fun q7 => dm_95_53 rec2 (dm_95_12 rec2 n) a1 a2 q7) else dm_95_53 rec2 (dm_95_12 rec2 n) a1 a2 q2.2))))))
set_option maxRecDepth 40000 in
theorem de_95_12 (X : fj_X) (rec2 : Int32 → Option fj_V → fj_M → Option fj_M) (hrec2 : ∀ (a1 : Int32) (o2 : Option fj_V) (M : fj_M) (r : fj_M), rec2 a1 o2 M = some r → fj_ev X (95, 2, [some (.inr (20, 0)), some (.inl a1), o2], [], M) (none, r)) : ∀ (n : Nat) (a1 : Int32) (a2 : Int32) (M : fj_M) (r : fj_M), dm_95_12 rec2 n a1 a2 M = some r → fj_ev X (95, 12, [some (.inr (20, 0)), some (.inl a1), some (.inl a2)], [], M) (none, r)
  | 0, _, _, _, r, h => by cases h
  | n + 1, a1, a2, M, r, h => by
    unfold dm_95_12 at h
    refine fj_blk 2 (95, 15, [some (.inr (20, 0)), some (.inl a1), some (.inl a2)], [(.inl 12), (.inl a2)], M) rfl ?_
    by_cases hc1 : 12 ≤ a2
    · rw [if_pos hc1] at h
      refine fj_bt rfl (decide_eq_true hc1) ?_
      refine fj_blk 2 (95, 2, [some (.inr (20, 0)), some (.inl (a1 + 1)), some (.inl a2)], [], M) rfl ?_
      exact hrec2 (a1 + 1) (some (.inl a2)) M r h
    · rw [if_neg hc1] at h
      refine fj_bf rfl (decide_eq_false hc1) ?_
      refine fj_blk 2 (95, 20, [some (.inr (20, 0)), some (.inl a1), some (.inl a2)], [(.inl a2), (.inr (20, 0))], M) rfl ?_
      cases hq2 : dm_82 a2 M with
      | none => rw [hq2] at h; cases h
      | some q2 =>
        rw [hq2, Option.bind_some] at h
        refine fj_cl rfl (de_82 X a2 M _ hq2) ?_
        by_cases hc3 : q2.1 = 0
        · rw [if_pos hc3] at h
          refine fj_bt rfl (decide_eq_true hc3) ?_
          exact de_95_53 X rec2 (dm_95_12 rec2 n) hrec2 (de_95_12 X rec2 hrec2 n) a1 a2 q2.2 r h
        · rw [if_neg hc3] at h
          refine fj_bf rfl (decide_eq_false hc3) ?_
          refine fj_blk 3 (95, 31, [some (.inr (20, 0)), some (.inl a1), some (.inl a2)], [(.inl a2), (.inr (30, 0))], q2.2) rfl ?_
          by_cases hc4 : a2 < 0 ∨ 12 ≤ a2.toNatClampNeg
          · rw [if_pos hc4] at h
            cases h
          rw [if_neg hc4] at h
          refine fj_ald rfl rfl hc4 ?_
          refine fj_blk 3 (95, 37, [some (.inr (20, 0)), some (.inl a1), some (.inl a2)], [(.inl a1), (.inr (39, 0)), (.inl (q2.2.2 30 0 a2.toNatClampNeg))], q2.2) rfl ?_
          by_cases hc5 : a1 < 0 ∨ 12 ≤ a1.toNatClampNeg
          · rw [if_pos hc5] at h
            cases h
          rw [if_neg hc5] at h
          refine fj_ald rfl rfl hc5 ?_
          refine fj_blk 4 (95, 42, [some (.inr (20, 0)), some (.inl a1), some (.inl a2)], [(.inl 1), (.inl (((q2.2.2 30 0 a2.toNatClampNeg) >>> ((q2.2.2 39 0 a1.toNatClampNeg) &&& 31)) &&& 1))], q2.2) rfl ?_
          by_cases hc6 : (((q2.2.2 30 0 a2.toNatClampNeg) >>> ((q2.2.2 39 0 a1.toNatClampNeg) &&& 31)) &&& 1) = 1
          · rw [if_pos hc6] at h
            refine fj_bf rfl (fj_nf hc6) ?_
            refine fj_blk 4 (95, 50, [some (.inr (20, 0)), some (.inl a1), some (.inl a2)], [(.inl 1), (.inl 8), (.inl a2), (.inr (20, 0))], q2.2) rfl ?_
            cases hq7 : dm_94 a2 8 1 q2.2 with
            | none => rw [hq7] at h; cases h
            | some q7 =>
              rw [hq7, Option.bind_some] at h
              refine fj_cl rfl (de_94 X a2 8 1 q2.2 _ hq7) ?_
              exact de_95_53 X rec2 (dm_95_12 rec2 n) hrec2 (de_95_12 X rec2 hrec2 n) a1 a2 q7 r h
          · rw [if_neg hc6] at h
            refine fj_bt rfl (fj_nt hc6) ?_
            exact de_95_53 X rec2 (dm_95_12 rec2 n) hrec2 (de_95_12 X rec2 hrec2 n) a1 a2 q2.2 r h
def dm_95_2  : Nat → Int32 → Option fj_V → fj_M → Option fj_M
  | 0, _, _, _ => none
  | n + 1, a1, o2, M => (if (M.2 20 0 27) ≤ a1 then some M else dm_95_12 (dm_95_2 n) 40 a1 0 M)
set_option maxRecDepth 40000 in
theorem de_95_2 (X : fj_X) : ∀ (n : Nat) (a1 : Int32) (o2 : Option fj_V) (M : fj_M) (r : fj_M), dm_95_2 n a1 o2 M = some r → fj_ev X (95, 2, [some (.inr (20, 0)), some (.inl a1), o2], [], M) (none, r)
  | 0, _, _, _, r, h => by cases h
  | n + 1, a1, o2, M, r, h => by
    unfold dm_95_2 at h
    refine fj_blk 3 (95, 7, [some (.inr (20, 0)), some (.inl a1), o2], [(.inl (M.2 20 0 27)), (.inl a1)], M) rfl ?_
    by_cases hc1 : (M.2 20 0 27) ≤ a1
    · rw [if_pos hc1] at h
      refine fj_bt rfl (decide_eq_true hc1) ?_
      cases h
      exact fj_rv rfl rfl
    · rw [if_neg hc1] at h
      refine fj_bf rfl (decide_eq_false hc1) ?_
      refine fj_blk 2 (95, 12, [some (.inr (20, 0)), some (.inl a1), some (.inl 0)], [], M) rfl ?_
      exact de_95_12 X (dm_95_2 n) (de_95_2 X n) 40 a1 0 M r h
/-- X6_spread -/
def dm_95  (M : fj_M) : Option fj_M := dm_95_2 40 0 none M
set_option maxRecDepth 40000 in
theorem de_95 (X : fj_X)  (M : fj_M) (r : fj_M) (h : dm_95  M = some r) : fj_ev X (95, 0, [some (.inr (20, 0)), none, none], [], M) (none, r) := by
    unfold dm_95 at h
    refine fj_blk 2 (95, 2, [some (.inr (20, 0)), some (.inl 0), none], [], M) rfl ?_
    exact de_95_2 X 40 0 none M r h
def dm_96_2  : Nat → Int32 → Option fj_V → fj_M → Option (Int32 × fj_M)
  | 0, _, _, _ => none
  | n + 1, a1, o2, M => (if 12 < a1 then some ((-1), M) else (if (((M.2 20 0 20) + a1) - ((M.2 20 0 20) + a1) / 12 * 12) < 0 ∨ 12 ≤ (((M.2 20 0 20) + a1) - ((M.2 20 0 20) + a1) / 12 * 12).toNatClampNeg then none else (if (M.2 23 0 ((((M.2 20 0 20) + a1) - ((M.2 20 0 20) + a1) / 12 * 12).toNatClampNeg)) = 1 then some (((M.2 20 0 20) + a1) - ((M.2 20 0 20) + a1) / 12 * 12, M) else dm_96_2 n (a1 + 1) (some (.inl (((M.2 20 0 20) + a1) - ((M.2 20 0 20) + a1) / 12 * 12))) M)))
set_option maxRecDepth 40000 in
theorem de_96_2 (X : fj_X) : ∀ (n : Nat) (a1 : Int32) (o2 : Option fj_V) (M : fj_M) (r : (Int32 × fj_M)), dm_96_2 n a1 o2 M = some r → fj_ev X (96, 2, [some (.inr (20, 0)), some (.inl a1), o2], [], M) (some r.1, r.2)
  | 0, _, _, _, r, h => by cases h
  | n + 1, a1, o2, M, r, h => by
    unfold dm_96_2 at h
    refine fj_blk 2 (96, 5, [some (.inr (20, 0)), some (.inl a1), o2], [(.inl 12), (.inl a1)], M) rfl ?_
    by_cases hc1 : 12 < a1
    · rw [if_pos hc1] at h
      refine fj_bt rfl (decide_eq_true hc1) ?_
      refine fj_blk 1 (96, 37, [some (.inr (20, 0)), some (.inl a1), o2], [(.inl (-1))], M) rfl ?_
      cases h
      exact fj_ri rfl rfl
    · rw [if_neg hc1] at h
      refine fj_bf rfl (decide_eq_false hc1) ?_
      refine fj_blk 5 (96, 16, [some (.inr (20, 0)), some (.inl a1), o2], [(.inl 12), (.inl ((M.2 20 0 20) + a1))], M) rfl ?_
      refine fj_irm rfl (by decide) ?_
      refine fj_blk 4 (96, 23, [some (.inr (20, 0)), some (.inl a1), some (.inl (((M.2 20 0 20) + a1) - ((M.2 20 0 20) + a1) / 12 * 12))], [(.inl (((M.2 20 0 20) + a1) - ((M.2 20 0 20) + a1) / 12 * 12)), (.inr (23, 0))], M) rfl ?_
      by_cases hc3 : (((M.2 20 0 20) + a1) - ((M.2 20 0 20) + a1) / 12 * 12) < 0 ∨ 12 ≤ (((M.2 20 0 20) + a1) - ((M.2 20 0 20) + a1) / 12 * 12).toNatClampNeg
      · rw [if_pos hc3] at h
        cases h
      rw [if_neg hc3] at h
      refine fj_ald rfl rfl hc3 ?_
      refine fj_blk 1 (96, 25, [some (.inr (20, 0)), some (.inl a1), some (.inl (((M.2 20 0 20) + a1) - ((M.2 20 0 20) + a1) / 12 * 12))], [(.inl 1), (.inl (M.2 23 0 ((((M.2 20 0 20) + a1) - ((M.2 20 0 20) + a1) / 12 * 12).toNatClampNeg)))], M) rfl ?_
      by_cases hc4 : (M.2 23 0 ((((M.2 20 0 20) + a1) - ((M.2 20 0 20) + a1) / 12 * 12).toNatClampNeg)) = 1
      · rw [if_pos hc4] at h
        refine fj_bf rfl (fj_nf hc4) ?_
        refine fj_blk 1 (96, 29, [some (.inr (20, 0)), some (.inl a1), some (.inl (((M.2 20 0 20) + a1) - ((M.2 20 0 20) + a1) / 12 * 12))], [(.inl (((M.2 20 0 20) + a1) - ((M.2 20 0 20) + a1) / 12 * 12))], M) rfl ?_
        cases h
        exact fj_ri rfl rfl
      · rw [if_neg hc4] at h
        refine fj_bt rfl (fj_nt hc4) ?_
        refine fj_blk 2 (96, 2, [some (.inr (20, 0)), some (.inl (a1 + 1)), some (.inl (((M.2 20 0 20) + a1) - ((M.2 20 0 20) + a1) / 12 * 12))], [], M) rfl ?_
        exact de_96_2 X n (a1 + 1) (some (.inl (((M.2 20 0 20) + a1) - ((M.2 20 0 20) + a1) / 12 * 12))) M r h
/-- X6_ring -/
def dm_96  (M : fj_M) : Option (Int32 × fj_M) := dm_96_2 40 1 none M
set_option maxRecDepth 40000 in
theorem de_96 (X : fj_X)  (M : fj_M) (r : (Int32 × fj_M)) (h : dm_96  M = some r) : fj_ev X (96, 0, [some (.inr (20, 0)), none, none], [], M) (some r.1, r.2) := by
    unfold dm_96 at h
    refine fj_blk 2 (96, 2, [some (.inr (20, 0)), some (.inl 1), none], [], M) rfl ?_
    exact de_96_2 X 40 1 none M r h
def dm_99_125  (a0 : Int32) (s0 : Int32) (M : fj_M) : Option (Int32 × fj_M) := (if s0 = 0 then some (0, M) else some (1, M))
set_option maxRecDepth 40000 in
theorem de_99_125 (X : fj_X) (a0 : Int32) (s0 : Int32) (M : fj_M) (r : (Int32 × fj_M)) (h : dm_99_125 a0 s0 M = some r) : fj_ev X (99, 125, [some (.inl a0), none], [(.inl s0)], M) (some r.1, r.2) := by
    unfold dm_99_125 at h
    refine fj_blk 2 (99, 127, [some (.inl a0), some (.inl s0)], [(.inl s0)], M) rfl ?_
    by_cases hc1 : s0 = 0
    · rw [if_pos hc1] at h
      refine fj_bt rfl (decide_eq_true hc1) ?_
      refine fj_blk 1 (99, 135, [some (.inl a0), some (.inl s0)], [(.inl 0)], M) rfl ?_
      cases h
      exact fj_ri rfl rfl
    · rw [if_neg hc1] at h
      refine fj_bf rfl (decide_eq_false hc1) ?_
      refine fj_blk 2 (99, 135, [some (.inl a0), some (.inl s0)], [(.inl 1)], M) rfl ?_
      cases h
      exact fj_ri rfl rfl
def dm_99_120  (a0 : Int32) (M : fj_M) : Option (Int32 × fj_M) := dm_99_125 a0 1 M
set_option maxRecDepth 40000 in
theorem de_99_120 (X : fj_X) (a0 : Int32) (M : fj_M) (r : (Int32 × fj_M)) (h : dm_99_120 a0 M = some r) : fj_ev X (99, 120, [some (.inl a0), none], [], M) (some r.1, r.2) := by
    unfold dm_99_120 at h
    refine fj_blk 2 (99, 125, [some (.inl a0), none], [(.inl 1)], M) rfl ?_
    exact de_99_125 X a0 1 M r h
/-- X6_takes -/
def dm_99 (a0 : Int32) (M : fj_M) : Option (Int32 × fj_M) := ((dm_78 a0 4 10 M).bind fun q1 => (if q1.1 = 0 then ((dm_78 a0 12 18 q1.2).bind fun q3 => (if q3.1 = 0 then (if a0 = 27 then some (2, q3.2) else ((dm_78 a0 2 3 q3.2).bind fun q6 => (if q6.1 = 0 then (if a0 = 11 then dm_99_120 a0 q6.2 else (if a0 = 19 then dm_99_120 a0 q6.2 else (if a0 = 21 then dm_99_120 a0 q6.2 else (if a0 = 25 then dm_99_120 a0 q6.2 else (if a0 = 26 then dm_99_120 a0 q6.2 else (if a0 = 28 then dm_99_120 a0 q6.2 else ((dm_78 a0 30 31 q6.2).bind fun q14 => (if q14.1 = 0 then (if a0 = 33 then dm_99_120 a0 q14.2 else (if a0 = 36 then dm_99_120 a0 q14.2 else ((dm_78 a0 39 41 q14.2).bind fun q18 => (if q18.1 = 0 then (if a0 = 43 then dm_99_120 a0 q18.2 else (if a0 = 45 then dm_99_120 a0 q18.2 else dm_99_125 a0 0 q18.2)) else dm_99_120 a0 q18.2)))) else dm_99_120 a0 q14.2)))))))) else dm_99_120 a0 q6.2))) else some (2, q3.2))) else some (2, q1.2)))
set_option maxRecDepth 40000 in
theorem de_99 (X : fj_X) (a0 : Int32) (M : fj_M) (r : (Int32 × fj_M)) (h : dm_99 a0 M = some r) : fj_ev X (99, 0, [some (.inl a0), none], [], M) (some r.1, r.2) := by
    unfold dm_99 at h
    refine fj_blk 3 (99, 4, [some (.inl a0), none], [(.inl 10), (.inl 4), (.inl a0)], M) rfl ?_
    cases hq1 : dm_78 a0 4 10 M with
    | none => rw [hq1] at h; cases h
    | some q1 =>
      rw [hq1, Option.bind_some] at h
      refine fj_cl rfl (de_78 X a0 4 10 M _ hq1) ?_
      by_cases hc2 : q1.1 = 0
      · rw [if_pos hc2] at h
        refine fj_bf rfl (fj_nf hc2) ?_
        refine fj_blk 3 (99, 15, [some (.inl a0), none], [(.inl 18), (.inl 12), (.inl a0)], q1.2) rfl ?_
        cases hq3 : dm_78 a0 12 18 q1.2 with
        | none => rw [hq3] at h; cases h
        | some q3 =>
          rw [hq3, Option.bind_some] at h
          refine fj_cl rfl (de_78 X a0 12 18 q1.2 _ hq3) ?_
          by_cases hc4 : q3.1 = 0
          · rw [if_pos hc4] at h
            refine fj_bf rfl (fj_nf hc4) ?_
            refine fj_blk 2 (99, 24, [some (.inl a0), none], [(.inl 27), (.inl a0)], q3.2) rfl ?_
            by_cases hc5 : a0 = 27
            · rw [if_pos hc5] at h
              refine fj_bf rfl (fj_nf hc5) ?_
              refine fj_blk 1 (99, 28, [some (.inl a0), none], [(.inl 2)], q3.2) rfl ?_
              cases h
              exact fj_ri rfl rfl
            · rw [if_neg hc5] at h
              refine fj_bt rfl (fj_nt hc5) ?_
              refine fj_blk 3 (99, 32, [some (.inl a0), none], [(.inl 3), (.inl 2), (.inl a0)], q3.2) rfl ?_
              cases hq6 : dm_78 a0 2 3 q3.2 with
              | none => rw [hq6] at h; cases h
              | some q6 =>
                rw [hq6, Option.bind_some] at h
                refine fj_cl rfl (de_78 X a0 2 3 q3.2 _ hq6) ?_
                by_cases hc7 : q6.1 = 0
                · rw [if_pos hc7] at h
                  refine fj_bf rfl (fj_nf hc7) ?_
                  refine fj_blk 2 (99, 41, [some (.inl a0), none], [(.inl 11), (.inl a0)], q6.2) rfl ?_
                  by_cases hc8 : a0 = 11
                  · rw [if_pos hc8] at h
                    refine fj_bt rfl (decide_eq_true hc8) ?_
                    exact de_99_120 X a0 q6.2 r h
                  · rw [if_neg hc8] at h
                    refine fj_bf rfl (decide_eq_false hc8) ?_
                    refine fj_blk 2 (99, 47, [some (.inl a0), none], [(.inl 19), (.inl a0)], q6.2) rfl ?_
                    by_cases hc9 : a0 = 19
                    · rw [if_pos hc9] at h
                      refine fj_bt rfl (decide_eq_true hc9) ?_
                      exact de_99_120 X a0 q6.2 r h
                    · rw [if_neg hc9] at h
                      refine fj_bf rfl (decide_eq_false hc9) ?_
                      refine fj_blk 2 (99, 53, [some (.inl a0), none], [(.inl 21), (.inl a0)], q6.2) rfl ?_
                      by_cases hc10 : a0 = 21
                      · rw [if_pos hc10] at h
                        refine fj_bt rfl (decide_eq_true hc10) ?_
                        exact de_99_120 X a0 q6.2 r h
                      · rw [if_neg hc10] at h
                        refine fj_bf rfl (decide_eq_false hc10) ?_
                        refine fj_blk 2 (99, 59, [some (.inl a0), none], [(.inl 25), (.inl a0)], q6.2) rfl ?_
                        by_cases hc11 : a0 = 25
                        · rw [if_pos hc11] at h
                          refine fj_bt rfl (decide_eq_true hc11) ?_
                          exact de_99_120 X a0 q6.2 r h
                        · rw [if_neg hc11] at h
                          refine fj_bf rfl (decide_eq_false hc11) ?_
                          refine fj_blk 2 (99, 65, [some (.inl a0), none], [(.inl 26), (.inl a0)], q6.2) rfl ?_
                          by_cases hc12 : a0 = 26
                          · rw [if_pos hc12] at h
                            refine fj_bt rfl (decide_eq_true hc12) ?_
                            exact de_99_120 X a0 q6.2 r h
                          · rw [if_neg hc12] at h
                            refine fj_bf rfl (decide_eq_false hc12) ?_
                            refine fj_blk 2 (99, 71, [some (.inl a0), none], [(.inl 28), (.inl a0)], q6.2) rfl ?_
                            by_cases hc13 : a0 = 28
                            · rw [if_pos hc13] at h
                              refine fj_bt rfl (decide_eq_true hc13) ?_
                              exact de_99_120 X a0 q6.2 r h
                            · rw [if_neg hc13] at h
                              refine fj_bf rfl (decide_eq_false hc13) ?_
                              refine fj_blk 3 (99, 79, [some (.inl a0), none], [(.inl 31), (.inl 30), (.inl a0)], q6.2) rfl ?_
                              cases hq14 : dm_78 a0 30 31 q6.2 with
                              | none => rw [hq14] at h; cases h
                              | some q14 =>
                                rw [hq14, Option.bind_some] at h
                                refine fj_cl rfl (de_78 X a0 30 31 q6.2 _ hq14) ?_
                                by_cases hc15 : q14.1 = 0
                                · rw [if_pos hc15] at h
                                  refine fj_bf rfl (fj_nf hc15) ?_
                                  refine fj_blk 2 (99, 88, [some (.inl a0), none], [(.inl 33), (.inl a0)], q14.2) rfl ?_
                                  by_cases hc16 : a0 = 33
                                  · rw [if_pos hc16] at h
                                    refine fj_bt rfl (decide_eq_true hc16) ?_
                                    exact de_99_120 X a0 q14.2 r h
                                  · rw [if_neg hc16] at h
                                    refine fj_bf rfl (decide_eq_false hc16) ?_
                                    refine fj_blk 2 (99, 94, [some (.inl a0), none], [(.inl 36), (.inl a0)], q14.2) rfl ?_
                                    by_cases hc17 : a0 = 36
                                    · rw [if_pos hc17] at h
                                      refine fj_bt rfl (decide_eq_true hc17) ?_
                                      exact de_99_120 X a0 q14.2 r h
                                    · rw [if_neg hc17] at h
                                      refine fj_bf rfl (decide_eq_false hc17) ?_
                                      refine fj_blk 3 (99, 102, [some (.inl a0), none], [(.inl 41), (.inl 39), (.inl a0)], q14.2) rfl ?_
                                      cases hq18 : dm_78 a0 39 41 q14.2 with
                                      | none => rw [hq18] at h; cases h
                                      | some q18 =>
                                        rw [hq18, Option.bind_some] at h
                                        refine fj_cl rfl (de_78 X a0 39 41 q14.2 _ hq18) ?_
                                        by_cases hc19 : q18.1 = 0
                                        · rw [if_pos hc19] at h
                                          refine fj_bf rfl (fj_nf hc19) ?_
                                          refine fj_blk 2 (99, 111, [some (.inl a0), none], [(.inl 43), (.inl a0)], q18.2) rfl ?_
                                          by_cases hc20 : a0 = 43
                                          · rw [if_pos hc20] at h
                                            refine fj_bt rfl (decide_eq_true hc20) ?_
                                            exact de_99_120 X a0 q18.2 r h
                                          · rw [if_neg hc20] at h
                                            refine fj_bf rfl (decide_eq_false hc20) ?_
                                            refine fj_blk 2 (99, 117, [some (.inl a0), none], [(.inl 45), (.inl a0)], q18.2) rfl ?_
                                            by_cases hc21 : a0 = 45
                                            · rw [if_pos hc21] at h
                                              refine fj_bf rfl (fj_nf hc21) ?_
                                              exact de_99_120 X a0 q18.2 r h
                                            · rw [if_neg hc21] at h
                                              refine fj_bt rfl (fj_nt hc21) ?_
                                              refine fj_blk 1 (99, 125, [some (.inl a0), none], [(.inl 0)], q18.2) rfl ?_
                                              exact de_99_125 X a0 0 q18.2 r h
                                        · rw [if_neg hc19] at h
                                          refine fj_bt rfl (fj_nt hc19) ?_
                                          exact de_99_120 X a0 q18.2 r h
                                · rw [if_neg hc15] at h
                                  refine fj_bt rfl (fj_nt hc15) ?_
                                  exact de_99_120 X a0 q14.2 r h
                · rw [if_neg hc7] at h
                  refine fj_bt rfl (fj_nt hc7) ?_
                  exact de_99_120 X a0 q6.2 r h
          · rw [if_neg hc4] at h
            refine fj_bt rfl (fj_nt hc4) ?_
            refine fj_blk 1 (99, 28, [some (.inl a0), none], [(.inl 2)], q3.2) rfl ?_
            cases h
            exact fj_ri rfl rfl
      · rw [if_neg hc2] at h
        refine fj_bt rfl (fj_nt hc2) ?_
        refine fj_blk 1 (99, 28, [some (.inl a0), none], [(.inl 2)], q1.2) rfl ?_
        cases h
        exact fj_ri rfl rfl
/-- X6_topOf -/
def dm_100 (a1 : Int32) (a2 : Int32) (M : fj_M) : Option (Int32 × fj_M) := (if a1 < 0 ∨ 12 ≤ a1.toNatClampNeg then none else (if ((((24 * a1) + (M.2 25 0 a1.toNatClampNeg)) - 1) - a2) < 0 ∨ 288 ≤ ((((24 * a1) + (M.2 25 0 a1.toNatClampNeg)) - 1) - a2).toNatClampNeg then none else some (M.2 26 0 (((((24 * a1) + (M.2 25 0 a1.toNatClampNeg)) - 1) - a2).toNatClampNeg), M)))
set_option maxRecDepth 40000 in
theorem de_100 (X : fj_X) (a1 : Int32) (a2 : Int32) (M : fj_M) (r : (Int32 × fj_M)) (h : dm_100 a1 a2 M = some r) : fj_ev X (100, 0, [some (.inr (20, 0)), some (.inl a1), some (.inl a2)], [], M) (some r.1, r.2) := by
    unfold dm_100 at h
    refine fj_blk 8 (100, 13, [some (.inr (20, 0)), some (.inl a1), some (.inl a2)], [(.inl a1), (.inr (25, 0)), (.inl (24 * a1)), (.inr (26, 0))], M) rfl ?_
    by_cases hc1 : a1 < 0 ∨ 12 ≤ a1.toNatClampNeg
    · rw [if_pos hc1] at h
      cases h
    rw [if_neg hc1] at h
    refine fj_ald rfl rfl hc1 ?_
    refine fj_blk 5 (100, 19, [some (.inr (20, 0)), some (.inl a1), some (.inl a2)], [(.inl ((((24 * a1) + (M.2 25 0 a1.toNatClampNeg)) - 1) - a2)), (.inr (26, 0))], M) rfl ?_
    by_cases hc2 : ((((24 * a1) + (M.2 25 0 a1.toNatClampNeg)) - 1) - a2) < 0 ∨ 288 ≤ ((((24 * a1) + (M.2 25 0 a1.toNatClampNeg)) - 1) - a2).toNatClampNeg
    · rw [if_pos hc2] at h
      cases h
    rw [if_neg hc2] at h
    refine fj_ald rfl rfl hc2 ?_
    cases h
    exact fj_ri rfl rfl
/-- X6_waits -/
def dm_106 (a1 : Int32) (a2 : Int32) (a3 : Int32) (a4 : Int32) (M : fj_M) : Option (Int32 × fj_M) := (if a1 < 0 ∨ 12 ≤ a1.toNatClampNeg then none else (if a1 < 0 ∨ 12 ≤ a1.toNatClampNeg then none else (if a1 < 0 ∨ 12 ≤ a1.toNatClampNeg then none else some (0, (M.1, (fj_u1 (fj_u1 (fj_u1 M.2 23 0 a1.toNatClampNeg a2) 33 0 a1.toNatClampNeg a3) 34 0 a1.toNatClampNeg a4))))))
set_option maxRecDepth 40000 in
theorem de_106 (X : fj_X) (a1 : Int32) (a2 : Int32) (a3 : Int32) (a4 : Int32) (M : fj_M) (r : (Int32 × fj_M)) (h : dm_106 a1 a2 a3 a4 M = some r) : fj_ev X (106, 0, [some (.inr (20, 0)), some (.inl a1), some (.inl a2), some (.inl a3), some (.inl a4)], [], M) (some r.1, r.2) := by
    unfold dm_106 at h
    refine fj_blk 4 (106, 6, [some (.inr (20, 0)), some (.inl a1), some (.inl a2), some (.inl a3), some (.inl a4)], [(.inl a2), (.inl a1), (.inr (23, 0))], M) rfl ?_
    by_cases hc1 : a1 < 0 ∨ 12 ≤ a1.toNatClampNeg
    · rw [if_pos hc1] at h
      cases h
    rw [if_neg hc1] at h
    refine fj_ast rfl rfl hc1 ?_
    refine fj_blk 4 (106, 13, [some (.inr (20, 0)), some (.inl a1), some (.inl a2), some (.inl a3), some (.inl a4)], [(.inl a3), (.inl a1), (.inr (33, 0))], (M.1, (fj_u1 M.2 23 0 a1.toNatClampNeg a2))) rfl ?_
    by_cases hc2 : a1 < 0 ∨ 12 ≤ a1.toNatClampNeg
    · rw [if_pos hc2] at h
      cases h
    rw [if_neg hc2] at h
    refine fj_ast rfl rfl hc2 ?_
    refine fj_blk 4 (106, 21, [some (.inr (20, 0)), some (.inl a1), some (.inl a2), some (.inl a3), some (.inl a4)], [(.inl a4), (.inl a1), (.inr (34, 0))], (M.1, (fj_u1 (fj_u1 M.2 23 0 a1.toNatClampNeg a2) 33 0 a1.toNatClampNeg a3))) rfl ?_
    by_cases hc3 : a1 < 0 ∨ 12 ≤ a1.toNatClampNeg
    · rw [if_pos hc3] at h
      cases h
    rw [if_neg hc3] at h
    refine fj_ast rfl rfl hc3 ?_
    refine fj_blk 1 (106, 23, [some (.inr (20, 0)), some (.inl a1), some (.inl a2), some (.inl a3), some (.inl a4)], [(.inl 0)], (M.1, (fj_u1 (fj_u1 (fj_u1 M.2 23 0 a1.toNatClampNeg a2) 33 0 a1.toNatClampNeg a3) 34 0 a1.toNatClampNeg a4))) rfl ?_
    cases h
    exact fj_ri rfl rfl
/-- X6_gives -/
def dm_101 (a1 : Int32) (a2 : Int32) (a3 : Int32) (M : fj_M) : Option fj_M := (if a1 < 0 ∨ 12 ≤ a1.toNatClampNeg then none else (if a1 < 0 ∨ 12 ≤ a1.toNatClampNeg then none else (if a1 < 0 ∨ 12 ≤ a1.toNatClampNeg then none else (if ((24 * a1) + ((fj_u1 M.2 25 0 a1.toNatClampNeg ((M.2 25 0 a1.toNatClampNeg) - a2)) 25 0 a1.toNatClampNeg)) < 0 ∨ 288 ≤ ((24 * a1) + ((fj_u1 M.2 25 0 a1.toNatClampNeg ((M.2 25 0 a1.toNatClampNeg) - a2)) 25 0 a1.toNatClampNeg)).toNatClampNeg then none else (if a1 < 0 ∨ 12 ≤ a1.toNatClampNeg then none else (if a1 < 0 ∨ 12 ≤ a1.toNatClampNeg then none else some (M.1, (fj_u1 (fj_u1 (fj_u1 M.2 25 0 a1.toNatClampNeg ((M.2 25 0 a1.toNatClampNeg) - a2)) 26 0 (((24 * a1) + ((fj_u1 M.2 25 0 a1.toNatClampNeg ((M.2 25 0 a1.toNatClampNeg) - a2)) 25 0 a1.toNatClampNeg)).toNatClampNeg) a3) 25 0 a1.toNatClampNeg (((fj_u1 (fj_u1 M.2 25 0 a1.toNatClampNeg ((M.2 25 0 a1.toNatClampNeg) - a2)) 26 0 (((24 * a1) + ((fj_u1 M.2 25 0 a1.toNatClampNeg ((M.2 25 0 a1.toNatClampNeg) - a2)) 25 0 a1.toNatClampNeg)).toNatClampNeg) a3) 25 0 a1.toNatClampNeg) + 1)))))))))
set_option maxRecDepth 40000 in
theorem de_101 (X : fj_X) (a1 : Int32) (a2 : Int32) (a3 : Int32) (M : fj_M) (r : fj_M) (h : dm_101 a1 a2 a3 M = some r) : fj_ev X (101, 0, [some (.inr (20, 0)), some (.inl a1), some (.inl a2), some (.inl a3)], [], M) (none, r) := by
    unfold dm_101 at h
    refine fj_blk 4 (101, 6, [some (.inr (20, 0)), some (.inl a1), some (.inl a2), some (.inl a3)], [(.inl a1), (.inr (25, 0)), (.inl a1), (.inr (25, 0))], M) rfl ?_
    by_cases hc1 : a1 < 0 ∨ 12 ≤ a1.toNatClampNeg
    · rw [if_pos hc1] at h
      cases h
    rw [if_neg hc1] at h
    refine fj_ald rfl rfl hc1 ?_
    refine fj_blk 2 (101, 9, [some (.inr (20, 0)), some (.inl a1), some (.inl a2), some (.inl a3)], [(.inl ((M.2 25 0 a1.toNatClampNeg) - a2)), (.inl a1), (.inr (25, 0))], M) rfl ?_
    by_cases hc2 : a1 < 0 ∨ 12 ≤ a1.toNatClampNeg
    · rw [if_pos hc2] at h
      cases h
    rw [if_neg hc2] at h
    refine fj_ast rfl rfl hc2 ?_
    refine fj_blk 8 (101, 23, [some (.inr (20, 0)), some (.inl a1), some (.inl a2), some (.inl a3)], [(.inl a1), (.inr (25, 0)), (.inl (24 * a1)), (.inr (26, 0))], (M.1, (fj_u1 M.2 25 0 a1.toNatClampNeg ((M.2 25 0 a1.toNatClampNeg) - a2)))) rfl ?_
    by_cases hc3 : a1 < 0 ∨ 12 ≤ a1.toNatClampNeg
    · rw [if_pos hc3] at h
      cases h
    rw [if_neg hc3] at h
    refine fj_ald rfl rfl hc3 ?_
    refine fj_blk 2 (101, 26, [some (.inr (20, 0)), some (.inl a1), some (.inl a2), some (.inl a3)], [(.inl a3), (.inl ((24 * a1) + ((fj_u1 M.2 25 0 a1.toNatClampNeg ((M.2 25 0 a1.toNatClampNeg) - a2)) 25 0 a1.toNatClampNeg))), (.inr (26, 0))], (M.1, (fj_u1 M.2 25 0 a1.toNatClampNeg ((M.2 25 0 a1.toNatClampNeg) - a2)))) rfl ?_
    by_cases hc4 : ((24 * a1) + ((fj_u1 M.2 25 0 a1.toNatClampNeg ((M.2 25 0 a1.toNatClampNeg) - a2)) 25 0 a1.toNatClampNeg)) < 0 ∨ 288 ≤ ((24 * a1) + ((fj_u1 M.2 25 0 a1.toNatClampNeg ((M.2 25 0 a1.toNatClampNeg) - a2)) 25 0 a1.toNatClampNeg)).toNatClampNeg
    · rw [if_pos hc4] at h
      cases h
    rw [if_neg hc4] at h
    refine fj_ast rfl rfl hc4 ?_
    refine fj_blk 4 (101, 33, [some (.inr (20, 0)), some (.inl a1), some (.inl a2), some (.inl a3)], [(.inl a1), (.inr (25, 0)), (.inl a1), (.inr (25, 0))], (M.1, (fj_u1 (fj_u1 M.2 25 0 a1.toNatClampNeg ((M.2 25 0 a1.toNatClampNeg) - a2)) 26 0 (((24 * a1) + ((fj_u1 M.2 25 0 a1.toNatClampNeg ((M.2 25 0 a1.toNatClampNeg) - a2)) 25 0 a1.toNatClampNeg)).toNatClampNeg) a3))) rfl ?_
    by_cases hc5 : a1 < 0 ∨ 12 ≤ a1.toNatClampNeg
    · rw [if_pos hc5] at h
      cases h
    rw [if_neg hc5] at h
    refine fj_ald rfl rfl hc5 ?_
    refine fj_blk 2 (101, 36, [some (.inr (20, 0)), some (.inl a1), some (.inl a2), some (.inl a3)], [(.inl (((fj_u1 (fj_u1 M.2 25 0 a1.toNatClampNeg ((M.2 25 0 a1.toNatClampNeg) - a2)) 26 0 (((24 * a1) + ((fj_u1 M.2 25 0 a1.toNatClampNeg ((M.2 25 0 a1.toNatClampNeg) - a2)) 25 0 a1.toNatClampNeg)).toNatClampNeg) a3) 25 0 a1.toNatClampNeg) + 1)), (.inl a1), (.inr (25, 0))], (M.1, (fj_u1 (fj_u1 M.2 25 0 a1.toNatClampNeg ((M.2 25 0 a1.toNatClampNeg) - a2)) 26 0 (((24 * a1) + ((fj_u1 M.2 25 0 a1.toNatClampNeg ((M.2 25 0 a1.toNatClampNeg) - a2)) 25 0 a1.toNatClampNeg)).toNatClampNeg) a3))) rfl ?_
    by_cases hc6 : a1 < 0 ∨ 12 ≤ a1.toNatClampNeg
    · rw [if_pos hc6] at h
      cases h
    rw [if_neg hc6] at h
    refine fj_ast rfl rfl hc6 ?_
    cases h
    exact fj_rv rfl rfl
/-- X6_whichOf -/
def dm_108 (a0 : Int32) (a1 : Int32) (M : fj_M) : Option (Int32 × fj_M) := (if a0 = a1 then some (0, M) else some (1, M))
set_option maxRecDepth 40000 in
theorem de_108 (X : fj_X) (a0 : Int32) (a1 : Int32) (M : fj_M) (r : (Int32 × fj_M)) (h : dm_108 a0 a1 M = some r) : fj_ev X (108, 0, [some (.inl a0), some (.inl a1)], [], M) (some r.1, r.2) := by
    unfold dm_108 at h
    refine fj_blk 2 (108, 2, [some (.inl a0), some (.inl a1)], [(.inl a1), (.inl a0)], M) rfl ?_
    by_cases hc1 : a0 = a1
    · rw [if_pos hc1] at h
      refine fj_bf rfl (fj_nf hc1) ?_
      refine fj_blk 2 (108, 10, [some (.inl a0), some (.inl a1)], [(.inl 0)], M) rfl ?_
      cases h
      exact fj_ri rfl rfl
    · rw [if_neg hc1] at h
      refine fj_bt rfl (fj_nt hc1) ?_
      refine fj_blk 1 (108, 10, [some (.inl a0), some (.inl a1)], [(.inl 1)], M) rfl ?_
      cases h
      exact fj_ri rfl rfl
def dm_107_322  (a1 : Int32) (a2 : Int32) (a3 : Int32) (a4 : Int32) (a5 : Int32) (a6 : Int32) (a7 : Int32) (a8 : Int32) (a9 : Int32) (s0 : Int32) (s1 : Int32) (s2 : Int32) (M : fj_M) : Option (Int32 × fj_M) := ((dm_101 s2 s1 s0 M).bind fun q1 => some (0, q1))
set_option maxRecDepth 40000 in
theorem de_107_322 (X : fj_X) (a1 : Int32) (a2 : Int32) (a3 : Int32) (a4 : Int32) (a5 : Int32) (a6 : Int32) (a7 : Int32) (a8 : Int32) (a9 : Int32) (s0 : Int32) (s1 : Int32) (s2 : Int32) (M : fj_M) (r : (Int32 × fj_M)) (h : dm_107_322 a1 a2 a3 a4 a5 a6 a7 a8 a9 s0 s1 s2 M = some r) : fj_ev X (107, 322, [some (.inr (20, 0)), some (.inl a1), some (.inl a2), some (.inl a3), some (.inl a4), some (.inl a5), some (.inl a6), some (.inl a7), some (.inl a8), some (.inl a9)], [(.inl s0), (.inl s1), (.inl s2), (.inr (20, 0))], M) (some r.1, r.2) := by
    unfold dm_107_322 at h
    cases hq1 : dm_101 s2 s1 s0 M with
    | none => rw [hq1] at h; cases h
    | some q1 =>
      rw [hq1, Option.bind_some] at h
      refine fj_cl rfl (de_101 X s2 s1 s0 M _ hq1) ?_
      refine fj_blk 1 (107, 326, [some (.inr (20, 0)), some (.inl a1), some (.inl a2), some (.inl a3), some (.inl a4), some (.inl a5), some (.inl a6), some (.inl a7), some (.inl a8), some (.inl a9)], [(.inl 0)], q1) rfl ?_
      cases h
      exact fj_ri rfl rfl
def dm_107_287  (a1 : Int32) (a2 : Int32) (a3 : Int32) (a4 : Int32) (a5 : Int32) (a6 : Int32) (a7 : Int32) (a8 : Int32) (a9 : Int32) (M : fj_M) : Option (Int32 × fj_M) := (if a2 = 32 then some (0, M) else (if a2 = 34 then (if a8 = 0 then dm_107_322 a1 a2 a3 a4 a5 a6 a7 a8 a9 1 0 a1 M else dm_107_322 a1 a2 a3 a4 a5 a6 a7 a8 a9 0 0 a1 M) else ((dm_108 a5 a7 M).bind fun q4 => dm_107_322 a1 a2 a3 a4 a5 a6 a7 a8 a9 q4.1 0 a1 q4.2)))
set_option maxRecDepth 40000 in
theorem de_107_287 (X : fj_X) (a1 : Int32) (a2 : Int32) (a3 : Int32) (a4 : Int32) (a5 : Int32) (a6 : Int32) (a7 : Int32) (a8 : Int32) (a9 : Int32) (M : fj_M) (r : (Int32 × fj_M)) (h : dm_107_287 a1 a2 a3 a4 a5 a6 a7 a8 a9 M = some r) : fj_ev X (107, 287, [some (.inr (20, 0)), some (.inl a1), some (.inl a2), some (.inl a3), some (.inl a4), some (.inl a5), some (.inl a6), some (.inl a7), some (.inl a8), some (.inl a9)], [], M) (some r.1, r.2) := by
    unfold dm_107_287 at h
    refine fj_blk 2 (107, 290, [some (.inr (20, 0)), some (.inl a1), some (.inl a2), some (.inl a3), some (.inl a4), some (.inl a5), some (.inl a6), some (.inl a7), some (.inl a8), some (.inl a9)], [(.inl 32), (.inl a2)], M) rfl ?_
    by_cases hc1 : a2 = 32
    · rw [if_pos hc1] at h
      refine fj_bt rfl (decide_eq_true hc1) ?_
      refine fj_blk 1 (107, 326, [some (.inr (20, 0)), some (.inl a1), some (.inl a2), some (.inl a3), some (.inl a4), some (.inl a5), some (.inl a6), some (.inl a7), some (.inl a8), some (.inl a9)], [(.inl 0)], M) rfl ?_
      cases h
      exact fj_ri rfl rfl
    · rw [if_neg hc1] at h
      refine fj_bf rfl (decide_eq_false hc1) ?_
      refine fj_blk 5 (107, 299, [some (.inr (20, 0)), some (.inl a1), some (.inl a2), some (.inl a3), some (.inl a4), some (.inl a5), some (.inl a6), some (.inl a7), some (.inl a8), some (.inl a9)], [(.inl 34), (.inl a2), (.inl 0), (.inl a1), (.inr (20, 0))], M) rfl ?_
      by_cases hc2 : a2 = 34
      · rw [if_pos hc2] at h
        refine fj_bf rfl (fj_nf hc2) ?_
        refine fj_blk 1 (107, 304, [some (.inr (20, 0)), some (.inl a1), some (.inl a2), some (.inl a3), some (.inl a4), some (.inl a5), some (.inl a6), some (.inl a7), some (.inl a8), some (.inl a9)], [(.inl a8), (.inl 0), (.inl a1), (.inr (20, 0))], M) rfl ?_
        by_cases hc3 : a8 = 0
        · rw [if_pos hc3] at h
          refine fj_bt rfl (decide_eq_true hc3) ?_
          refine fj_blk 2 (107, 322, [some (.inr (20, 0)), some (.inl a1), some (.inl a2), some (.inl a3), some (.inl a4), some (.inl a5), some (.inl a6), some (.inl a7), some (.inl a8), some (.inl a9)], [(.inl 1), (.inl 0), (.inl a1), (.inr (20, 0))], M) rfl ?_
          exact de_107_322 X a1 a2 a3 a4 a5 a6 a7 a8 a9 1 0 a1 M r h
        · rw [if_neg hc3] at h
          refine fj_bf rfl (decide_eq_false hc3) ?_
          refine fj_blk 2 (107, 322, [some (.inr (20, 0)), some (.inl a1), some (.inl a2), some (.inl a3), some (.inl a4), some (.inl a5), some (.inl a6), some (.inl a7), some (.inl a8), some (.inl a9)], [(.inl 0), (.inl 0), (.inl a1), (.inr (20, 0))], M) rfl ?_
          exact de_107_322 X a1 a2 a3 a4 a5 a6 a7 a8 a9 0 0 a1 M r h
      · rw [if_neg hc2] at h
        refine fj_bt rfl (fj_nt hc2) ?_
        refine fj_blk 2 (107, 319, [some (.inr (20, 0)), some (.inl a1), some (.inl a2), some (.inl a3), some (.inl a4), some (.inl a5), some (.inl a6), some (.inl a7), some (.inl a8), some (.inl a9)], [(.inl a7), (.inl a5), (.inl 0), (.inl a1), (.inr (20, 0))], M) rfl ?_
        cases hq4 : dm_108 a5 a7 M with
        | none => rw [hq4] at h; cases h
        | some q4 =>
          rw [hq4, Option.bind_some] at h
          refine fj_cl rfl (de_108 X a5 a7 M _ hq4) ?_
          exact de_107_322 X a1 a2 a3 a4 a5 a6 a7 a8 a9 q4.1 0 a1 q4.2 r h
def dm_107_242  (a1 : Int32) (a2 : Int32) (a3 : Int32) (a4 : Int32) (a5 : Int32) (a6 : Int32) (a7 : Int32) (a8 : Int32) (s0 : Int32) (M : fj_M) : Option (Int32 × fj_M) := (if a1 < 0 ∨ 12 ≤ a1.toNatClampNeg then none else (if ((M.2 25 0 a1.toNatClampNeg) + s0) ≤ 24 then (if a1 < 0 ∨ 12 ≤ a1.toNatClampNeg then none else (if a1 < 0 ∨ 12 ≤ a1.toNatClampNeg then none else (if a8 = 0 then ((dm_90 a7 (M.1, (fj_u1 M.2 24 0 a1.toNatClampNeg ((M.2 24 0 a1.toNatClampNeg) + 1)))).bind fun q6 => ((dm_101 a1 0 q6.1 q6.2).bind fun q7 => dm_107_287 a1 a2 a3 a4 a5 a6 a7 a8 s0 q7)) else dm_107_287 a1 a2 a3 a4 a5 a6 a7 a8 s0 (M.1, (fj_u1 M.2 24 0 a1.toNatClampNeg ((M.2 24 0 a1.toNatClampNeg) + 1)))))) else some (3, M)))
set_option maxRecDepth 40000 in
theorem de_107_242 (X : fj_X) (a1 : Int32) (a2 : Int32) (a3 : Int32) (a4 : Int32) (a5 : Int32) (a6 : Int32) (a7 : Int32) (a8 : Int32) (s0 : Int32) (M : fj_M) (r : (Int32 × fj_M)) (h : dm_107_242 a1 a2 a3 a4 a5 a6 a7 a8 s0 M = some r) : fj_ev X (107, 242, [some (.inr (20, 0)), some (.inl a1), some (.inl a2), some (.inl a3), some (.inl a4), some (.inl a5), some (.inl a6), some (.inl a7), some (.inl a8), none], [(.inl s0)], M) (some r.1, r.2) := by
    unfold dm_107_242 at h
    refine fj_blk 4 (107, 249, [some (.inr (20, 0)), some (.inl a1), some (.inl a2), some (.inl a3), some (.inl a4), some (.inl a5), some (.inl a6), some (.inl a7), some (.inl a8), some (.inl s0)], [(.inl a1), (.inr (25, 0))], M) rfl ?_
    by_cases hc1 : a1 < 0 ∨ 12 ≤ a1.toNatClampNeg
    · rw [if_pos hc1] at h
      cases h
    rw [if_neg hc1] at h
    refine fj_ald rfl rfl hc1 ?_
    refine fj_blk 3 (107, 255, [some (.inr (20, 0)), some (.inl a1), some (.inl a2), some (.inl a3), some (.inl a4), some (.inl a5), some (.inl a6), some (.inl a7), some (.inl a8), some (.inl s0)], [(.inl 24), (.inl ((M.2 25 0 a1.toNatClampNeg) + s0))], M) rfl ?_
    by_cases hc2 : ((M.2 25 0 a1.toNatClampNeg) + s0) ≤ 24
    · rw [if_pos hc2] at h
      refine fj_bt rfl (decide_eq_true hc2) ?_
      refine fj_blk 4 (107, 266, [some (.inr (20, 0)), some (.inl a1), some (.inl a2), some (.inl a3), some (.inl a4), some (.inl a5), some (.inl a6), some (.inl a7), some (.inl a8), some (.inl s0)], [(.inl a1), (.inr (24, 0)), (.inl a1), (.inr (24, 0))], M) rfl ?_
      by_cases hc3 : a1 < 0 ∨ 12 ≤ a1.toNatClampNeg
      · rw [if_pos hc3] at h
        cases h
      rw [if_neg hc3] at h
      refine fj_ald rfl rfl hc3 ?_
      refine fj_blk 2 (107, 269, [some (.inr (20, 0)), some (.inl a1), some (.inl a2), some (.inl a3), some (.inl a4), some (.inl a5), some (.inl a6), some (.inl a7), some (.inl a8), some (.inl s0)], [(.inl ((M.2 24 0 a1.toNatClampNeg) + 1)), (.inl a1), (.inr (24, 0))], M) rfl ?_
      by_cases hc4 : a1 < 0 ∨ 12 ≤ a1.toNatClampNeg
      · rw [if_pos hc4] at h
        cases h
      rw [if_neg hc4] at h
      refine fj_ast rfl rfl hc4 ?_
      refine fj_blk 1 (107, 272, [some (.inr (20, 0)), some (.inl a1), some (.inl a2), some (.inl a3), some (.inl a4), some (.inl a5), some (.inl a6), some (.inl a7), some (.inl a8), some (.inl s0)], [(.inl a8)], (M.1, (fj_u1 M.2 24 0 a1.toNatClampNeg ((M.2 24 0 a1.toNatClampNeg) + 1)))) rfl ?_
      by_cases hc5 : a8 = 0
      · rw [if_pos hc5] at h
        refine fj_bf rfl (fj_nf hc5) ?_
        refine fj_blk 5 (107, 281, [some (.inr (20, 0)), some (.inl a1), some (.inl a2), some (.inl a3), some (.inl a4), some (.inl a5), some (.inl a6), some (.inl a7), some (.inl a8), some (.inl s0)], [(.inl a7), (.inr (20, 0)), (.inl 0), (.inl a1), (.inr (20, 0))], (M.1, (fj_u1 M.2 24 0 a1.toNatClampNeg ((M.2 24 0 a1.toNatClampNeg) + 1)))) rfl ?_
        cases hq6 : dm_90 a7 (M.1, (fj_u1 M.2 24 0 a1.toNatClampNeg ((M.2 24 0 a1.toNatClampNeg) + 1))) with
        | none => rw [hq6] at h; cases h
        | some q6 =>
          rw [hq6, Option.bind_some] at h
          refine fj_cl rfl (de_90 X a7 (M.1, (fj_u1 M.2 24 0 a1.toNatClampNeg ((M.2 24 0 a1.toNatClampNeg) + 1))) _ hq6) ?_
          cases hq7 : dm_101 a1 0 q6.1 q6.2 with
          | none => rw [hq7] at h; cases h
          | some q7 =>
            rw [hq7, Option.bind_some] at h
            refine fj_cl rfl (de_101 X a1 0 q6.1 q6.2 _ hq7) ?_
            exact de_107_287 X a1 a2 a3 a4 a5 a6 a7 a8 s0 q7 r h
      · rw [if_neg hc5] at h
        refine fj_bt rfl (fj_nt hc5) ?_
        exact de_107_287 X a1 a2 a3 a4 a5 a6 a7 a8 s0 (M.1, (fj_u1 M.2 24 0 a1.toNatClampNeg ((M.2 24 0 a1.toNatClampNeg) + 1))) r h
    · rw [if_neg hc2] at h
      refine fj_bf rfl (decide_eq_false hc2) ?_
      refine fj_blk 1 (107, 259, [some (.inr (20, 0)), some (.inl a1), some (.inl a2), some (.inl a3), some (.inl a4), some (.inl a5), some (.inl a6), some (.inl a7), some (.inl a8), some (.inl s0)], [(.inl 3)], M) rfl ?_
      cases h
      exact fj_ri rfl rfl
def dm_107_237  (a1 : Int32) (a2 : Int32) (a3 : Int32) (a4 : Int32) (a5 : Int32) (a6 : Int32) (a7 : Int32) (a8 : Int32) (M : fj_M) : Option (Int32 × fj_M) := dm_107_242 a1 a2 a3 a4 a5 a6 a7 a8 1 M
set_option maxRecDepth 40000 in
theorem de_107_237 (X : fj_X) (a1 : Int32) (a2 : Int32) (a3 : Int32) (a4 : Int32) (a5 : Int32) (a6 : Int32) (a7 : Int32) (a8 : Int32) (M : fj_M) (r : (Int32 × fj_M)) (h : dm_107_237 a1 a2 a3 a4 a5 a6 a7 a8 M = some r) : fj_ev X (107, 237, [some (.inr (20, 0)), some (.inl a1), some (.inl a2), some (.inl a3), some (.inl a4), some (.inl a5), some (.inl a6), some (.inl a7), some (.inl a8), none], [], M) (some r.1, r.2) := by
    unfold dm_107_237 at h
    refine fj_blk 2 (107, 242, [some (.inr (20, 0)), some (.inl a1), some (.inl a2), some (.inl a3), some (.inl a4), some (.inl a5), some (.inl a6), some (.inl a7), some (.inl a8), none], [(.inl 1)], M) rfl ?_
    exact de_107_242 X a1 a2 a3 a4 a5 a6 a7 a8 1 M r h
def dm_107_226  (a1 : Int32) (a2 : Int32) (a3 : Int32) (a4 : Int32) (a5 : Int32) (a6 : Int32) (a7 : Int32) (a8 : Int32) (M : fj_M) : Option (Int32 × fj_M) := (if a2 = 32 then dm_107_237 a1 a2 a3 a4 a5 a6 a7 a8 M else (if a8 = 0 then dm_107_242 a1 a2 a3 a4 a5 a6 a7 a8 2 M else dm_107_237 a1 a2 a3 a4 a5 a6 a7 a8 M))
set_option maxRecDepth 40000 in
theorem de_107_226 (X : fj_X) (a1 : Int32) (a2 : Int32) (a3 : Int32) (a4 : Int32) (a5 : Int32) (a6 : Int32) (a7 : Int32) (a8 : Int32) (M : fj_M) (r : (Int32 × fj_M)) (h : dm_107_226 a1 a2 a3 a4 a5 a6 a7 a8 M = some r) : fj_ev X (107, 226, [some (.inr (20, 0)), some (.inl a1), some (.inl a2), some (.inl a3), some (.inl a4), some (.inl a5), some (.inl a6), some (.inl a7), some (.inl a8), none], [], M) (some r.1, r.2) := by
    unfold dm_107_226 at h
    refine fj_blk 2 (107, 229, [some (.inr (20, 0)), some (.inl a1), some (.inl a2), some (.inl a3), some (.inl a4), some (.inl a5), some (.inl a6), some (.inl a7), some (.inl a8), none], [(.inl 32), (.inl a2)], M) rfl ?_
    by_cases hc1 : a2 = 32
    · rw [if_pos hc1] at h
      refine fj_bt rfl (decide_eq_true hc1) ?_
      exact de_107_237 X a1 a2 a3 a4 a5 a6 a7 a8 M r h
    · rw [if_neg hc1] at h
      refine fj_bf rfl (decide_eq_false hc1) ?_
      refine fj_blk 1 (107, 234, [some (.inr (20, 0)), some (.inl a1), some (.inl a2), some (.inl a3), some (.inl a4), some (.inl a5), some (.inl a6), some (.inl a7), some (.inl a8), none], [(.inl a8)], M) rfl ?_
      by_cases hc2 : a8 = 0
      · rw [if_pos hc2] at h
        refine fj_bt rfl (decide_eq_true hc2) ?_
        refine fj_blk 1 (107, 242, [some (.inr (20, 0)), some (.inl a1), some (.inl a2), some (.inl a3), some (.inl a4), some (.inl a5), some (.inl a6), some (.inl a7), some (.inl a8), none], [(.inl 2)], M) rfl ?_
        exact de_107_242 X a1 a2 a3 a4 a5 a6 a7 a8 2 M r h
      · rw [if_neg hc2] at h
        refine fj_bf rfl (decide_eq_false hc2) ?_
        exact de_107_237 X a1 a2 a3 a4 a5 a6 a7 a8 M r h
def dm_107_218  (a1 : Int32) (a2 : Int32) (a3 : Int32) (a4 : Int32) (a5 : Int32) (a6 : Int32) (a7 : Int32) (a8 : Int32) (s0 : Int32) (s1 : Int32) (M : fj_M) : Option (Int32 × fj_M) := ((dm_106 s1 s0 a5 a6 M).bind fun q1 => some (q1.1, q1.2))
set_option maxRecDepth 40000 in
theorem de_107_218 (X : fj_X) (a1 : Int32) (a2 : Int32) (a3 : Int32) (a4 : Int32) (a5 : Int32) (a6 : Int32) (a7 : Int32) (a8 : Int32) (s0 : Int32) (s1 : Int32) (M : fj_M) (r : (Int32 × fj_M)) (h : dm_107_218 a1 a2 a3 a4 a5 a6 a7 a8 s0 s1 M = some r) : fj_ev X (107, 218, [some (.inr (20, 0)), some (.inl a1), some (.inl a2), some (.inl a3), some (.inl a4), some (.inl a5), some (.inl a6), some (.inl a7), some (.inl a8), none], [(.inl s0), (.inl s1), (.inr (20, 0))], M) (some r.1, r.2) := by
    unfold dm_107_218 at h
    refine fj_blk 2 (107, 222, [some (.inr (20, 0)), some (.inl a1), some (.inl a2), some (.inl a3), some (.inl a4), some (.inl a5), some (.inl a6), some (.inl a7), some (.inl a8), none], [(.inl a6), (.inl a5), (.inl s0), (.inl s1), (.inr (20, 0))], M) rfl ?_
    cases hq1 : dm_106 s1 s0 a5 a6 M with
    | none => rw [hq1] at h; cases h
    | some q1 =>
      rw [hq1, Option.bind_some] at h
      refine fj_cl rfl (de_106 X s1 s0 a5 a6 M _ hq1) ?_
      cases h
      exact fj_ri rfl rfl
def dm_107_192  (a1 : Int32) (a2 : Int32) (a3 : Int32) (a4 : Int32) (a5 : Int32) (a6 : Int32) (a7 : Int32) (s0 : Int32) (M : fj_M) : Option (Int32 × fj_M) := (if s0 = 0 then dm_107_226 a1 a2 a3 a4 a5 a6 a7 s0 M else (if a2 = 34 then dm_107_226 a1 a2 a3 a4 a5 a6 a7 s0 M else (if a2 = 32 then dm_107_218 a1 a2 a3 a4 a5 a6 a7 s0 3 a1 M else dm_107_218 a1 a2 a3 a4 a5 a6 a7 s0 4 a1 M)))
set_option maxRecDepth 40000 in
theorem de_107_192 (X : fj_X) (a1 : Int32) (a2 : Int32) (a3 : Int32) (a4 : Int32) (a5 : Int32) (a6 : Int32) (a7 : Int32) (s0 : Int32) (M : fj_M) (r : (Int32 × fj_M)) (h : dm_107_192 a1 a2 a3 a4 a5 a6 a7 s0 M = some r) : fj_ev X (107, 192, [some (.inr (20, 0)), some (.inl a1), some (.inl a2), some (.inl a3), some (.inl a4), some (.inl a5), some (.inl a6), some (.inl a7), none, none], [(.inl s0)], M) (some r.1, r.2) := by
    unfold dm_107_192 at h
    refine fj_blk 2 (107, 196, [some (.inr (20, 0)), some (.inl a1), some (.inl a2), some (.inl a3), some (.inl a4), some (.inl a5), some (.inl a6), some (.inl a7), some (.inl s0), none], [(.inl s0)], M) rfl ?_
    by_cases hc1 : s0 = 0
    · rw [if_pos hc1] at h
      refine fj_bt rfl (decide_eq_true hc1) ?_
      exact de_107_226 X a1 a2 a3 a4 a5 a6 a7 s0 M r h
    · rw [if_neg hc1] at h
      refine fj_bf rfl (decide_eq_false hc1) ?_
      refine fj_blk 2 (107, 202, [some (.inr (20, 0)), some (.inl a1), some (.inl a2), some (.inl a3), some (.inl a4), some (.inl a5), some (.inl a6), some (.inl a7), some (.inl s0), none], [(.inl 34), (.inl a2)], M) rfl ?_
      by_cases hc2 : a2 = 34
      · rw [if_pos hc2] at h
        refine fj_bt rfl (decide_eq_true hc2) ?_
        exact de_107_226 X a1 a2 a3 a4 a5 a6 a7 s0 M r h
      · rw [if_neg hc2] at h
        refine fj_bf rfl (decide_eq_false hc2) ?_
        refine fj_blk 4 (107, 210, [some (.inr (20, 0)), some (.inl a1), some (.inl a2), some (.inl a3), some (.inl a4), some (.inl a5), some (.inl a6), some (.inl a7), some (.inl s0), none], [(.inl 32), (.inl a2), (.inl a1), (.inr (20, 0))], M) rfl ?_
        by_cases hc3 : a2 = 32
        · rw [if_pos hc3] at h
          refine fj_bf rfl (fj_nf hc3) ?_
          refine fj_blk 2 (107, 218, [some (.inr (20, 0)), some (.inl a1), some (.inl a2), some (.inl a3), some (.inl a4), some (.inl a5), some (.inl a6), some (.inl a7), some (.inl s0), none], [(.inl 3), (.inl a1), (.inr (20, 0))], M) rfl ?_
          exact de_107_218 X a1 a2 a3 a4 a5 a6 a7 s0 3 a1 M r h
        · rw [if_neg hc3] at h
          refine fj_bt rfl (fj_nt hc3) ?_
          refine fj_blk 1 (107, 218, [some (.inr (20, 0)), some (.inl a1), some (.inl a2), some (.inl a3), some (.inl a4), some (.inl a5), some (.inl a6), some (.inl a7), some (.inl s0), none], [(.inl 4), (.inl a1), (.inr (20, 0))], M) rfl ?_
          exact de_107_218 X a1 a2 a3 a4 a5 a6 a7 s0 4 a1 M r h
def dm_107_175  (a1 : Int32) (a2 : Int32) (a3 : Int32) (a4 : Int32) (a5 : Int32) (a6 : Int32) (s0 : Int32) (M : fj_M) : Option (Int32 × fj_M) := (if s0 < 0 ∨ 6 ≤ s0.toNatClampNeg then none else (if (M.2 36 0 s0.toNatClampNeg) = 0 then dm_107_192 a1 a2 a3 a4 a5 a6 s0 1 M else dm_107_192 a1 a2 a3 a4 a5 a6 s0 0 M))
set_option maxRecDepth 40000 in
theorem de_107_175 (X : fj_X) (a1 : Int32) (a2 : Int32) (a3 : Int32) (a4 : Int32) (a5 : Int32) (a6 : Int32) (s0 : Int32) (M : fj_M) (r : (Int32 × fj_M)) (h : dm_107_175 a1 a2 a3 a4 a5 a6 s0 M = some r) : fj_ev X (107, 175, [some (.inr (20, 0)), some (.inl a1), some (.inl a2), some (.inl a3), some (.inl a4), some (.inl a5), some (.inl a6), none, none, none], [(.inl s0)], M) (some r.1, r.2) := by
    unfold dm_107_175 at h
    refine fj_blk 4 (107, 183, [some (.inr (20, 0)), some (.inl a1), some (.inl a2), some (.inl a3), some (.inl a4), some (.inl a5), some (.inl a6), some (.inl s0), none, none], [(.inl s0), (.inr (36, 0))], M) rfl ?_
    by_cases hc1 : s0 < 0 ∨ 6 ≤ s0.toNatClampNeg
    · rw [if_pos hc1] at h
      cases h
    rw [if_neg hc1] at h
    refine fj_ald rfl rfl hc1 ?_
    by_cases hc2 : (M.2 36 0 s0.toNatClampNeg) = 0
    · rw [if_pos hc2] at h
      refine fj_bf rfl (fj_nf hc2) ?_
      refine fj_blk 2 (107, 192, [some (.inr (20, 0)), some (.inl a1), some (.inl a2), some (.inl a3), some (.inl a4), some (.inl a5), some (.inl a6), some (.inl s0), none, none], [(.inl 1)], M) rfl ?_
      exact de_107_192 X a1 a2 a3 a4 a5 a6 s0 1 M r h
    · rw [if_neg hc2] at h
      refine fj_bt rfl (fj_nt hc2) ?_
      refine fj_blk 1 (107, 192, [some (.inr (20, 0)), some (.inl a1), some (.inl a2), some (.inl a3), some (.inl a4), some (.inl a5), some (.inl a6), some (.inl s0), none, none], [(.inl 0)], M) rfl ?_
      exact de_107_192 X a1 a2 a3 a4 a5 a6 s0 0 M r h
def dm_107_156  (a1 : Int32) (a2 : Int32) (a3 : Int32) (a4 : Int32) (a5 : Int32) (s0 : Int32) (M : fj_M) : Option (Int32 × fj_M) := (if a5 < 0 ∨ 6 ≤ a5.toNatClampNeg then none else (if (M.2 36 0 a5.toNatClampNeg) ≤ 0 then dm_107_175 a1 a2 a3 a4 a5 s0 s0 M else dm_107_175 a1 a2 a3 a4 a5 s0 a5 M))
set_option maxRecDepth 40000 in
theorem de_107_156 (X : fj_X) (a1 : Int32) (a2 : Int32) (a3 : Int32) (a4 : Int32) (a5 : Int32) (s0 : Int32) (M : fj_M) (r : (Int32 × fj_M)) (h : dm_107_156 a1 a2 a3 a4 a5 s0 M = some r) : fj_ev X (107, 156, [some (.inr (20, 0)), some (.inl a1), some (.inl a2), some (.inl a3), some (.inl a4), some (.inl a5), none, none, none, none], [(.inl s0)], M) (some r.1, r.2) := by
    unfold dm_107_156 at h
    refine fj_blk 4 (107, 164, [some (.inr (20, 0)), some (.inl a1), some (.inl a2), some (.inl a3), some (.inl a4), some (.inl a5), some (.inl s0), none, none, none], [(.inl a5), (.inr (36, 0))], M) rfl ?_
    by_cases hc1 : a5 < 0 ∨ 6 ≤ a5.toNatClampNeg
    · rw [if_pos hc1] at h
      cases h
    rw [if_neg hc1] at h
    refine fj_ald rfl rfl hc1 ?_
    by_cases hc2 : (M.2 36 0 a5.toNatClampNeg) ≤ 0
    · rw [if_pos hc2] at h
      refine fj_bt rfl (decide_eq_true hc2) ?_
      refine fj_blk 1 (107, 175, [some (.inr (20, 0)), some (.inl a1), some (.inl a2), some (.inl a3), some (.inl a4), some (.inl a5), some (.inl s0), none, none, none], [(.inl s0)], M) rfl ?_
      exact de_107_175 X a1 a2 a3 a4 a5 s0 s0 M r h
    · rw [if_neg hc2] at h
      refine fj_bf rfl (decide_eq_false hc2) ?_
      refine fj_blk 2 (107, 175, [some (.inr (20, 0)), some (.inl a1), some (.inl a2), some (.inl a3), some (.inl a4), some (.inl a5), some (.inl s0), none, none, none], [(.inl a5)], M) rfl ?_
      exact de_107_175 X a1 a2 a3 a4 a5 s0 a5 M r h
def dm_107_141  (a1 : Int32) (a2 : Int32) (a3 : Int32) (a4 : Int32) (s0 : Int32) (M : fj_M) : Option (Int32 × fj_M) := (if a2 = 35 then dm_107_156 a1 a2 a3 a4 s0 (a3 >>> (3 &&& 31)) M else dm_107_156 a1 a2 a3 a4 s0 a3 M)
set_option maxRecDepth 40000 in
theorem de_107_141 (X : fj_X) (a1 : Int32) (a2 : Int32) (a3 : Int32) (a4 : Int32) (s0 : Int32) (M : fj_M) (r : (Int32 × fj_M)) (h : dm_107_141 a1 a2 a3 a4 s0 M = some r) : fj_ev X (107, 141, [some (.inr (20, 0)), some (.inl a1), some (.inl a2), some (.inl a3), some (.inl a4), none, none, none, none, none], [(.inl s0)], M) (some r.1, r.2) := by
    unfold dm_107_141 at h
    refine fj_blk 3 (107, 146, [some (.inr (20, 0)), some (.inl a1), some (.inl a2), some (.inl a3), some (.inl a4), some (.inl s0), none, none, none, none], [(.inl 35), (.inl a2)], M) rfl ?_
    by_cases hc1 : a2 = 35
    · rw [if_pos hc1] at h
      refine fj_bf rfl (fj_nf hc1) ?_
      refine fj_blk 4 (107, 156, [some (.inr (20, 0)), some (.inl a1), some (.inl a2), some (.inl a3), some (.inl a4), some (.inl s0), none, none, none, none], [(.inl (a3 >>> (3 &&& 31)))], M) rfl ?_
      exact de_107_156 X a1 a2 a3 a4 s0 (a3 >>> (3 &&& 31)) M r h
    · rw [if_neg hc1] at h
      refine fj_bt rfl (fj_nt hc1) ?_
      refine fj_blk 1 (107, 156, [some (.inr (20, 0)), some (.inl a1), some (.inl a2), some (.inl a3), some (.inl a4), some (.inl s0), none, none, none, none], [(.inl a3)], M) rfl ?_
      exact de_107_156 X a1 a2 a3 a4 s0 a3 M r h
def dm_107_112  (a1 : Int32) (a2 : Int32) (a3 : Int32) (a4 : Int32) (a5 : Int32) (s0 : Int32) (s1 : Int32) (s2 : Int32) (M : fj_M) : Option (Int32 × fj_M) := ((dm_101 s2 s1 s0 M).bind fun q1 => (if a1 < 0 ∨ 12 ≤ a1.toNatClampNeg then none else (if a1 < 0 ∨ 12 ≤ a1.toNatClampNeg then none else some (0, (q1.1, (fj_u1 q1.2 24 0 a1.toNatClampNeg ((q1.2 24 0 a1.toNatClampNeg) + 1)))))))
set_option maxRecDepth 40000 in
theorem de_107_112 (X : fj_X) (a1 : Int32) (a2 : Int32) (a3 : Int32) (a4 : Int32) (a5 : Int32) (s0 : Int32) (s1 : Int32) (s2 : Int32) (M : fj_M) (r : (Int32 × fj_M)) (h : dm_107_112 a1 a2 a3 a4 a5 s0 s1 s2 M = some r) : fj_ev X (107, 112, [some (.inr (20, 0)), some (.inl a1), some (.inl a2), some (.inl a3), some (.inl a4), some (.inl a5), none, none, none, none], [(.inl s0), (.inl s1), (.inl s2), (.inr (20, 0))], M) (some r.1, r.2) := by
    unfold dm_107_112 at h
    cases hq1 : dm_101 s2 s1 s0 M with
    | none => rw [hq1] at h; cases h
    | some q1 =>
      rw [hq1, Option.bind_some] at h
      refine fj_cl rfl (de_101 X s2 s1 s0 M _ hq1) ?_
      refine fj_blk 4 (107, 121, [some (.inr (20, 0)), some (.inl a1), some (.inl a2), some (.inl a3), some (.inl a4), some (.inl a5), none, none, none, none], [(.inl a1), (.inr (24, 0)), (.inl a1), (.inr (24, 0))], q1) rfl ?_
      by_cases hc2 : a1 < 0 ∨ 12 ≤ a1.toNatClampNeg
      · rw [if_pos hc2] at h
        cases h
      rw [if_neg hc2] at h
      refine fj_ald rfl rfl hc2 ?_
      refine fj_blk 2 (107, 124, [some (.inr (20, 0)), some (.inl a1), some (.inl a2), some (.inl a3), some (.inl a4), some (.inl a5), none, none, none, none], [(.inl ((q1.2 24 0 a1.toNatClampNeg) + 1)), (.inl a1), (.inr (24, 0))], q1) rfl ?_
      by_cases hc3 : a1 < 0 ∨ 12 ≤ a1.toNatClampNeg
      · rw [if_pos hc3] at h
        cases h
      rw [if_neg hc3] at h
      refine fj_ast rfl rfl hc3 ?_
      refine fj_blk 1 (107, 126, [some (.inr (20, 0)), some (.inl a1), some (.inl a2), some (.inl a3), some (.inl a4), some (.inl a5), none, none, none, none], [(.inl 0)], (q1.1, (fj_u1 q1.2 24 0 a1.toNatClampNeg ((q1.2 24 0 a1.toNatClampNeg) + 1)))) rfl ?_
      cases h
      exact fj_ri rfl rfl
def dm_107_99  (a1 : Int32) (a2 : Int32) (a3 : Int32) (a4 : Int32) (a5 : Int32) (M : fj_M) : Option (Int32 × fj_M) := (if a5 = 0 then dm_107_112 a1 a2 a3 a4 a5 1 1 a1 M else dm_107_112 a1 a2 a3 a4 a5 0 1 a1 M)
set_option maxRecDepth 40000 in
theorem de_107_99 (X : fj_X) (a1 : Int32) (a2 : Int32) (a3 : Int32) (a4 : Int32) (a5 : Int32) (M : fj_M) (r : (Int32 × fj_M)) (h : dm_107_99 a1 a2 a3 a4 a5 M = some r) : fj_ev X (107, 99, [some (.inr (20, 0)), some (.inl a1), some (.inl a2), some (.inl a3), some (.inl a4), some (.inl a5), none, none, none, none], [], M) (some r.1, r.2) := by
    unfold dm_107_99 at h
    refine fj_blk 4 (107, 104, [some (.inr (20, 0)), some (.inl a1), some (.inl a2), some (.inl a3), some (.inl a4), some (.inl a5), none, none, none, none], [(.inl a5), (.inl 1), (.inl a1), (.inr (20, 0))], M) rfl ?_
    by_cases hc1 : a5 = 0
    · rw [if_pos hc1] at h
      refine fj_bt rfl (decide_eq_true hc1) ?_
      refine fj_blk 1 (107, 112, [some (.inr (20, 0)), some (.inl a1), some (.inl a2), some (.inl a3), some (.inl a4), some (.inl a5), none, none, none, none], [(.inl 1), (.inl 1), (.inl a1), (.inr (20, 0))], M) rfl ?_
      exact de_107_112 X a1 a2 a3 a4 a5 1 1 a1 M r h
    · rw [if_neg hc1] at h
      refine fj_bf rfl (decide_eq_false hc1) ?_
      refine fj_blk 2 (107, 112, [some (.inr (20, 0)), some (.inl a1), some (.inl a2), some (.inl a3), some (.inl a4), some (.inl a5), none, none, none, none], [(.inl 0), (.inl 1), (.inl a1), (.inr (20, 0))], M) rfl ?_
      exact de_107_112 X a1 a2 a3 a4 a5 0 1 a1 M r h
def dm_107_85  (a1 : Int32) (a2 : Int32) (a3 : Int32) (a4 : Int32) (s0 : Int32) (M : fj_M) : Option (Int32 × fj_M) := (if s0 = 0 then ((dm_89 a3 a4 M).bind fun q2 => dm_107_99 a1 a2 a3 a4 s0 q2) else dm_107_99 a1 a2 a3 a4 s0 M)
set_option maxRecDepth 40000 in
theorem de_107_85 (X : fj_X) (a1 : Int32) (a2 : Int32) (a3 : Int32) (a4 : Int32) (s0 : Int32) (M : fj_M) (r : (Int32 × fj_M)) (h : dm_107_85 a1 a2 a3 a4 s0 M = some r) : fj_ev X (107, 85, [some (.inr (20, 0)), some (.inl a1), some (.inl a2), some (.inl a3), some (.inl a4), none, none, none, none, none], [(.inl s0)], M) (some r.1, r.2) := by
    unfold dm_107_85 at h
    refine fj_blk 2 (107, 89, [some (.inr (20, 0)), some (.inl a1), some (.inl a2), some (.inl a3), some (.inl a4), some (.inl s0), none, none, none, none], [(.inl s0)], M) rfl ?_
    by_cases hc1 : s0 = 0
    · rw [if_pos hc1] at h
      refine fj_bf rfl (fj_nf hc1) ?_
      refine fj_blk 3 (107, 96, [some (.inr (20, 0)), some (.inl a1), some (.inl a2), some (.inl a3), some (.inl a4), some (.inl s0), none, none, none, none], [(.inl a4), (.inl a3), (.inr (20, 0))], M) rfl ?_
      cases hq2 : dm_89 a3 a4 M with
      | none => rw [hq2] at h; cases h
      | some q2 =>
        rw [hq2, Option.bind_some] at h
        refine fj_cl rfl (de_89 X a3 a4 M _ hq2) ?_
        exact de_107_99 X a1 a2 a3 a4 s0 q2 r h
    · rw [if_neg hc1] at h
      refine fj_bt rfl (fj_nt hc1) ?_
      exact de_107_99 X a1 a2 a3 a4 s0 M r h
/-- X6_workChannel -/
def dm_107 (a1 : Int32) (a2 : Int32) (a3 : Int32) (a4 : Int32) (M : fj_M) : Option (Int32 × fj_M) := (if a2 = 31 then (if a3 < 0 ∨ 6 ≤ a3.toNatClampNeg then none else (if a3 < 0 ∨ 6 ≤ a3.toNatClampNeg then none else (if (M.2 36 0 a3.toNatClampNeg) = (M.2 35 0 a3.toNatClampNeg) then ((dm_106 a1 2 a3 a3 M).bind fun q5 => some (q5.1, q5.2)) else (if a1 < 0 ∨ 12 ≤ a1.toNatClampNeg then none else (if a1 < 0 ∨ 12 ≤ a1.toNatClampNeg then none else ((dm_89 a3 a4 (M.1, (fj_u1 M.2 25 0 a1.toNatClampNeg ((M.2 25 0 a1.toNatClampNeg) - 1)))).bind fun q8 => (if a1 < 0 ∨ 12 ≤ a1.toNatClampNeg then none else (if a1 < 0 ∨ 12 ≤ a1.toNatClampNeg then none else some (0, (q8.1, (fj_u1 q8.2 24 0 a1.toNatClampNeg ((q8.2 24 0 a1.toNatClampNeg) + 1)))))))))))) else (if a2 = 33 then (if a3 < 0 ∨ 6 ≤ a3.toNatClampNeg then none else (if a3 < 0 ∨ 6 ≤ a3.toNatClampNeg then none else (if (M.2 36 0 a3.toNatClampNeg) = (M.2 35 0 a3.toNatClampNeg) then dm_107_85 a1 a2 a3 a4 1 M else dm_107_85 a1 a2 a3 a4 0 M))) else (if a2 = 35 then dm_107_141 a1 a2 a3 a4 (a3 &&& 7) M else dm_107_141 a1 a2 a3 a4 a3 M)))
set_option maxRecDepth 40000 in
theorem de_107 (X : fj_X) (a1 : Int32) (a2 : Int32) (a3 : Int32) (a4 : Int32) (M : fj_M) (r : (Int32 × fj_M)) (h : dm_107 a1 a2 a3 a4 M = some r) : fj_ev X (107, 0, [some (.inr (20, 0)), some (.inl a1), some (.inl a2), some (.inl a3), some (.inl a4), none, none, none, none, none], [], M) (some r.1, r.2) := by
    unfold dm_107 at h
    refine fj_blk 2 (107, 3, [some (.inr (20, 0)), some (.inl a1), some (.inl a2), some (.inl a3), some (.inl a4), none, none, none, none, none], [(.inl 31), (.inl a2)], M) rfl ?_
    by_cases hc1 : a2 = 31
    · rw [if_pos hc1] at h
      refine fj_bf rfl (fj_nf hc1) ?_
      refine fj_blk 3 (107, 11, [some (.inr (20, 0)), some (.inl a1), some (.inl a2), some (.inl a3), some (.inl a4), none, none, none, none, none], [(.inl a3), (.inr (36, 0))], M) rfl ?_
      by_cases hc2 : a3 < 0 ∨ 6 ≤ a3.toNatClampNeg
      · rw [if_pos hc2] at h
        cases h
      rw [if_neg hc2] at h
      refine fj_ald rfl rfl hc2 ?_
      refine fj_blk 3 (107, 17, [some (.inr (20, 0)), some (.inl a1), some (.inl a2), some (.inl a3), some (.inl a4), none, none, none, none, none], [(.inl a3), (.inr (35, 0)), (.inl (M.2 36 0 a3.toNatClampNeg))], M) rfl ?_
      by_cases hc3 : a3 < 0 ∨ 6 ≤ a3.toNatClampNeg
      · rw [if_pos hc3] at h
        cases h
      rw [if_neg hc3] at h
      refine fj_ald rfl rfl hc3 ?_
      by_cases hc4 : (M.2 36 0 a3.toNatClampNeg) = (M.2 35 0 a3.toNatClampNeg)
      · rw [if_pos hc4] at h
        refine fj_bf rfl (fj_nf hc4) ?_
        refine fj_blk 5 (107, 26, [some (.inr (20, 0)), some (.inl a1), some (.inl a2), some (.inl a3), some (.inl a4), none, none, none, none, none], [(.inl a3), (.inl a3), (.inl 2), (.inl a1), (.inr (20, 0))], M) rfl ?_
        cases hq5 : dm_106 a1 2 a3 a3 M with
        | none => rw [hq5] at h; cases h
        | some q5 =>
          rw [hq5, Option.bind_some] at h
          refine fj_cl rfl (de_106 X a1 2 a3 a3 M _ hq5) ?_
          cases h
          exact fj_ri rfl rfl
      · rw [if_neg hc4] at h
        refine fj_bt rfl (fj_nt hc4) ?_
        refine fj_blk 4 (107, 36, [some (.inr (20, 0)), some (.inl a1), some (.inl a2), some (.inl a3), some (.inl a4), none, none, none, none, none], [(.inl a1), (.inr (25, 0)), (.inl a1), (.inr (25, 0))], M) rfl ?_
        by_cases hc6 : a1 < 0 ∨ 12 ≤ a1.toNatClampNeg
        · rw [if_pos hc6] at h
          cases h
        rw [if_neg hc6] at h
        refine fj_ald rfl rfl hc6 ?_
        refine fj_blk 2 (107, 39, [some (.inr (20, 0)), some (.inl a1), some (.inl a2), some (.inl a3), some (.inl a4), none, none, none, none, none], [(.inl ((M.2 25 0 a1.toNatClampNeg) - 1)), (.inl a1), (.inr (25, 0))], M) rfl ?_
        by_cases hc7 : a1 < 0 ∨ 12 ≤ a1.toNatClampNeg
        · rw [if_pos hc7] at h
          cases h
        rw [if_neg hc7] at h
        refine fj_ast rfl rfl hc7 ?_
        refine fj_blk 3 (107, 44, [some (.inr (20, 0)), some (.inl a1), some (.inl a2), some (.inl a3), some (.inl a4), none, none, none, none, none], [(.inl a4), (.inl a3), (.inr (20, 0))], (M.1, (fj_u1 M.2 25 0 a1.toNatClampNeg ((M.2 25 0 a1.toNatClampNeg) - 1)))) rfl ?_
        cases hq8 : dm_89 a3 a4 (M.1, (fj_u1 M.2 25 0 a1.toNatClampNeg ((M.2 25 0 a1.toNatClampNeg) - 1))) with
        | none => rw [hq8] at h; cases h
        | some q8 =>
          rw [hq8, Option.bind_some] at h
          refine fj_cl rfl (de_89 X a3 a4 (M.1, (fj_u1 M.2 25 0 a1.toNatClampNeg ((M.2 25 0 a1.toNatClampNeg) - 1))) _ hq8) ?_
          refine fj_blk 4 (107, 53, [some (.inr (20, 0)), some (.inl a1), some (.inl a2), some (.inl a3), some (.inl a4), none, none, none, none, none], [(.inl a1), (.inr (24, 0)), (.inl a1), (.inr (24, 0))], q8) rfl ?_
          by_cases hc9 : a1 < 0 ∨ 12 ≤ a1.toNatClampNeg
          · rw [if_pos hc9] at h
            cases h
          rw [if_neg hc9] at h
          refine fj_ald rfl rfl hc9 ?_
          refine fj_blk 2 (107, 56, [some (.inr (20, 0)), some (.inl a1), some (.inl a2), some (.inl a3), some (.inl a4), none, none, none, none, none], [(.inl ((q8.2 24 0 a1.toNatClampNeg) + 1)), (.inl a1), (.inr (24, 0))], q8) rfl ?_
          by_cases hc10 : a1 < 0 ∨ 12 ≤ a1.toNatClampNeg
          · rw [if_pos hc10] at h
            cases h
          rw [if_neg hc10] at h
          refine fj_ast rfl rfl hc10 ?_
          refine fj_blk 1 (107, 58, [some (.inr (20, 0)), some (.inl a1), some (.inl a2), some (.inl a3), some (.inl a4), none, none, none, none, none], [(.inl 0)], (q8.1, (fj_u1 q8.2 24 0 a1.toNatClampNeg ((q8.2 24 0 a1.toNatClampNeg) + 1)))) rfl ?_
          cases h
          exact fj_ri rfl rfl
    · rw [if_neg hc1] at h
      refine fj_bt rfl (fj_nt hc1) ?_
      refine fj_blk 2 (107, 62, [some (.inr (20, 0)), some (.inl a1), some (.inl a2), some (.inl a3), some (.inl a4), none, none, none, none, none], [(.inl 33), (.inl a2)], M) rfl ?_
      by_cases hc11 : a2 = 33
      · rw [if_pos hc11] at h
        refine fj_bf rfl (fj_nf hc11) ?_
        refine fj_blk 3 (107, 70, [some (.inr (20, 0)), some (.inl a1), some (.inl a2), some (.inl a3), some (.inl a4), none, none, none, none, none], [(.inl a3), (.inr (36, 0))], M) rfl ?_
        by_cases hc12 : a3 < 0 ∨ 6 ≤ a3.toNatClampNeg
        · rw [if_pos hc12] at h
          cases h
        rw [if_neg hc12] at h
        refine fj_ald rfl rfl hc12 ?_
        refine fj_blk 3 (107, 76, [some (.inr (20, 0)), some (.inl a1), some (.inl a2), some (.inl a3), some (.inl a4), none, none, none, none, none], [(.inl a3), (.inr (35, 0)), (.inl (M.2 36 0 a3.toNatClampNeg))], M) rfl ?_
        by_cases hc13 : a3 < 0 ∨ 6 ≤ a3.toNatClampNeg
        · rw [if_pos hc13] at h
          cases h
        rw [if_neg hc13] at h
        refine fj_ald rfl rfl hc13 ?_
        by_cases hc14 : (M.2 36 0 a3.toNatClampNeg) = (M.2 35 0 a3.toNatClampNeg)
        · rw [if_pos hc14] at h
          refine fj_bf rfl (fj_nf hc14) ?_
          refine fj_blk 2 (107, 85, [some (.inr (20, 0)), some (.inl a1), some (.inl a2), some (.inl a3), some (.inl a4), none, none, none, none, none], [(.inl 1)], M) rfl ?_
          exact de_107_85 X a1 a2 a3 a4 1 M r h
        · rw [if_neg hc14] at h
          refine fj_bt rfl (fj_nt hc14) ?_
          refine fj_blk 1 (107, 85, [some (.inr (20, 0)), some (.inl a1), some (.inl a2), some (.inl a3), some (.inl a4), none, none, none, none, none], [(.inl 0)], M) rfl ?_
          exact de_107_85 X a1 a2 a3 a4 0 M r h
      · rw [if_neg hc11] at h
        refine fj_bt rfl (fj_nt hc11) ?_
        refine fj_blk 2 (107, 130, [some (.inr (20, 0)), some (.inl a1), some (.inl a2), some (.inl a3), some (.inl a4), none, none, none, none, none], [(.inl 35), (.inl a2)], M) rfl ?_
        by_cases hc15 : a2 = 35
        · rw [if_pos hc15] at h
          refine fj_bf rfl (fj_nf hc15) ?_
          refine fj_blk 4 (107, 141, [some (.inr (20, 0)), some (.inl a1), some (.inl a2), some (.inl a3), some (.inl a4), none, none, none, none, none], [(.inl (a3 &&& 7))], M) rfl ?_
          exact de_107_141 X a1 a2 a3 a4 (a3 &&& 7) M r h
        · rw [if_neg hc15] at h
          refine fj_bt rfl (fj_nt hc15) ?_
          refine fj_blk 1 (107, 141, [some (.inr (20, 0)), some (.inl a1), some (.inl a2), some (.inl a3), some (.inl a4), none, none, none, none, none], [(.inl a3)], M) rfl ?_
          exact de_107_141 X a1 a2 a3 a4 a3 M r h
def dm_110_103  (a1 : Int32) (a2 : Int32) (a3 : Int32) (a4 : Int32) (s0 : Int32) (s1 : Int32) (M : fj_M) : Option fj_M := (if s1 < 0 ∨ 12 ≤ s1.toNatClampNeg then none else some (M.1, (fj_u1 M.2 24 0 s1.toNatClampNeg s0)))
set_option maxRecDepth 40000 in
theorem de_110_103 (X : fj_X) (a1 : Int32) (a2 : Int32) (a3 : Int32) (a4 : Int32) (s0 : Int32) (s1 : Int32) (M : fj_M) (r : fj_M) (h : dm_110_103 a1 a2 a3 a4 s0 s1 M = some r) : fj_ev X (110, 103, [some (.inr (20, 0)), some (.inl a1), some (.inl a2), some (.inl a3), some (.inl a4)], [(.inl s0), (.inl s1), (.inr (24, 0))], M) (none, r) := by
    unfold dm_110_103 at h
    by_cases hc1 : s1 < 0 ∨ 12 ≤ s1.toNatClampNeg
    · rw [if_pos hc1] at h
      cases h
    rw [if_neg hc1] at h
    refine fj_ast rfl rfl hc1 ?_
    cases h
    exact fj_rv rfl rfl
def dm_110_102  (a1 : Int32) (a2 : Int32) (a3 : Int32) (a4 : Int32) (s0 : Int32) (M : fj_M) : Option fj_M := dm_110_103 a1 a2 a3 a4 a3 s0 M
set_option maxRecDepth 40000 in
theorem de_110_102 (X : fj_X) (a1 : Int32) (a2 : Int32) (a3 : Int32) (a4 : Int32) (s0 : Int32) (M : fj_M) (r : fj_M) (h : dm_110_102 a1 a2 a3 a4 s0 M = some r) : fj_ev X (110, 102, [some (.inr (20, 0)), some (.inl a1), some (.inl a2), some (.inl a3), some (.inl a4)], [(.inl s0), (.inr (24, 0))], M) (none, r) := by
    unfold dm_110_102 at h
    refine fj_blk 1 (110, 103, [some (.inr (20, 0)), some (.inl a1), some (.inl a2), some (.inl a3), some (.inl a4)], [(.inl a3), (.inl s0), (.inr (24, 0))], M) rfl ?_
    exact de_110_103 X a1 a2 a3 a4 a3 s0 M r h
def dm_110_77  (a1 : Int32) (a2 : Int32) (a3 : Int32) (a4 : Int32) (M : fj_M) : Option fj_M := (if a2 = 21 then (if a4 = 0 then dm_110_102 a1 a2 a3 a4 a1 M else (if a1 < 0 ∨ 12 ≤ a1.toNatClampNeg then none else dm_110_103 a1 a2 a3 a4 (M.2 24 0 a1.toNatClampNeg) a1 M)) else dm_110_102 a1 a2 a3 a4 a1 M)
set_option maxRecDepth 40000 in
theorem de_110_77 (X : fj_X) (a1 : Int32) (a2 : Int32) (a3 : Int32) (a4 : Int32) (M : fj_M) (r : fj_M) (h : dm_110_77 a1 a2 a3 a4 M = some r) : fj_ev X (110, 77, [some (.inr (20, 0)), some (.inl a1), some (.inl a2), some (.inl a3), some (.inl a4)], [], M) (none, r) := by
    unfold dm_110_77 at h
    refine fj_blk 5 (110, 85, [some (.inr (20, 0)), some (.inl a1), some (.inl a2), some (.inl a3), some (.inl a4)], [(.inl 21), (.inl a2), (.inl a1), (.inr (24, 0))], M) rfl ?_
    by_cases hc1 : a2 = 21
    · rw [if_pos hc1] at h
      refine fj_bf rfl (fj_nf hc1) ?_
      refine fj_blk 1 (110, 90, [some (.inr (20, 0)), some (.inl a1), some (.inl a2), some (.inl a3), some (.inl a4)], [(.inl a4), (.inl a1), (.inr (24, 0))], M) rfl ?_
      by_cases hc2 : a4 = 0
      · rw [if_pos hc2] at h
        refine fj_bt rfl (decide_eq_true hc2) ?_
        exact de_110_102 X a1 a2 a3 a4 a1 M r h
      · rw [if_neg hc2] at h
        refine fj_bf rfl (decide_eq_false hc2) ?_
        refine fj_blk 3 (110, 98, [some (.inr (20, 0)), some (.inl a1), some (.inl a2), some (.inl a3), some (.inl a4)], [(.inl a1), (.inr (24, 0)), (.inl a1), (.inr (24, 0))], M) rfl ?_
        by_cases hc3 : a1 < 0 ∨ 12 ≤ a1.toNatClampNeg
        · rw [if_pos hc3] at h
          cases h
        rw [if_neg hc3] at h
        refine fj_ald rfl rfl hc3 ?_
        refine fj_blk 1 (110, 103, [some (.inr (20, 0)), some (.inl a1), some (.inl a2), some (.inl a3), some (.inl a4)], [(.inl (M.2 24 0 a1.toNatClampNeg)), (.inl a1), (.inr (24, 0))], M) rfl ?_
        exact de_110_103 X a1 a2 a3 a4 (M.2 24 0 a1.toNatClampNeg) a1 M r h
    · rw [if_neg hc1] at h
      refine fj_bt rfl (fj_nt hc1) ?_
      exact de_110_102 X a1 a2 a3 a4 a1 M r h
/-- X6_jump -/
def dm_110 (a1 : Int32) (a2 : Int32) (a3 : Int32) (a4 : Int32) (M : fj_M) : Option fj_M := (if a2 = 23 then (if a1 < 0 ∨ 12 ≤ a1.toNatClampNeg then none else (if a1 < 0 ∨ 12 ≤ a1.toNatClampNeg then none else (if a1 < 0 ∨ 12 ≤ a1.toNatClampNeg then none else (if ((12 * a1) + ((fj_u1 M.2 27 0 a1.toNatClampNeg ((M.2 27 0 a1.toNatClampNeg) - 1)) 27 0 a1.toNatClampNeg)) < 0 ∨ 144 ≤ ((12 * a1) + ((fj_u1 M.2 27 0 a1.toNatClampNeg ((M.2 27 0 a1.toNatClampNeg) - 1)) 27 0 a1.toNatClampNeg)).toNatClampNeg then none else (if a1 < 0 ∨ 12 ≤ a1.toNatClampNeg then none else some (M.1, (fj_u1 (fj_u1 M.2 27 0 a1.toNatClampNeg ((M.2 27 0 a1.toNatClampNeg) - 1)) 24 0 a1.toNatClampNeg ((fj_u1 M.2 27 0 a1.toNatClampNeg ((M.2 27 0 a1.toNatClampNeg) - 1)) 28 0 (((12 * a1) + ((fj_u1 M.2 27 0 a1.toNatClampNeg ((M.2 27 0 a1.toNatClampNeg) - 1)) 27 0 a1.toNatClampNeg)).toNatClampNeg))))))))) else (if a2 = 22 then (if a1 < 0 ∨ 12 ≤ a1.toNatClampNeg then none else (if a1 < 0 ∨ 12 ≤ a1.toNatClampNeg then none else (if ((12 * a1) + (M.2 27 0 a1.toNatClampNeg)) < 0 ∨ 144 ≤ ((12 * a1) + (M.2 27 0 a1.toNatClampNeg)).toNatClampNeg then none else (if a1 < 0 ∨ 12 ≤ a1.toNatClampNeg then none else (if a1 < 0 ∨ 12 ≤ a1.toNatClampNeg then none else dm_110_77 a1 a2 a3 a4 (M.1, (fj_u1 (fj_u1 M.2 28 0 (((12 * a1) + (M.2 27 0 a1.toNatClampNeg)).toNatClampNeg) (M.2 24 0 a1.toNatClampNeg)) 27 0 a1.toNatClampNeg (((fj_u1 M.2 28 0 (((12 * a1) + (M.2 27 0 a1.toNatClampNeg)).toNatClampNeg) (M.2 24 0 a1.toNatClampNeg)) 27 0 a1.toNatClampNeg) + 1)))))))) else dm_110_77 a1 a2 a3 a4 M))
set_option maxRecDepth 40000 in
theorem de_110 (X : fj_X) (a1 : Int32) (a2 : Int32) (a3 : Int32) (a4 : Int32) (M : fj_M) (r : fj_M) (h : dm_110 a1 a2 a3 a4 M = some r) : fj_ev X (110, 0, [some (.inr (20, 0)), some (.inl a1), some (.inl a2), some (.inl a3), some (.inl a4)], [], M) (none, r) := by
    unfold dm_110 at h
    refine fj_blk 2 (110, 3, [some (.inr (20, 0)), some (.inl a1), some (.inl a2), some (.inl a3), some (.inl a4)], [(.inl 23), (.inl a2)], M) rfl ?_
    by_cases hc1 : a2 = 23
    · rw [if_pos hc1] at h
      refine fj_bf rfl (fj_nf hc1) ?_
      refine fj_blk 4 (110, 12, [some (.inr (20, 0)), some (.inl a1), some (.inl a2), some (.inl a3), some (.inl a4)], [(.inl a1), (.inr (27, 0)), (.inl a1), (.inr (27, 0))], M) rfl ?_
      by_cases hc2 : a1 < 0 ∨ 12 ≤ a1.toNatClampNeg
      · rw [if_pos hc2] at h
        cases h
      rw [if_neg hc2] at h
      refine fj_ald rfl rfl hc2 ?_
      refine fj_blk 2 (110, 15, [some (.inr (20, 0)), some (.inl a1), some (.inl a2), some (.inl a3), some (.inl a4)], [(.inl ((M.2 27 0 a1.toNatClampNeg) - 1)), (.inl a1), (.inr (27, 0))], M) rfl ?_
      by_cases hc3 : a1 < 0 ∨ 12 ≤ a1.toNatClampNeg
      · rw [if_pos hc3] at h
        cases h
      rw [if_neg hc3] at h
      refine fj_ast rfl rfl hc3 ?_
      refine fj_blk 11 (110, 34, [some (.inr (20, 0)), some (.inl a1), some (.inl a2), some (.inl a3), some (.inl a4)], [(.inl a1), (.inr (27, 0)), (.inl (12 * a1)), (.inr (28, 0)), (.inl a1), (.inr (24, 0))], (M.1, (fj_u1 M.2 27 0 a1.toNatClampNeg ((M.2 27 0 a1.toNatClampNeg) - 1)))) rfl ?_
      by_cases hc4 : a1 < 0 ∨ 12 ≤ a1.toNatClampNeg
      · rw [if_pos hc4] at h
        cases h
      rw [if_neg hc4] at h
      refine fj_ald rfl rfl hc4 ?_
      refine fj_blk 1 (110, 36, [some (.inr (20, 0)), some (.inl a1), some (.inl a2), some (.inl a3), some (.inl a4)], [(.inl ((12 * a1) + ((fj_u1 M.2 27 0 a1.toNatClampNeg ((M.2 27 0 a1.toNatClampNeg) - 1)) 27 0 a1.toNatClampNeg))), (.inr (28, 0)), (.inl a1), (.inr (24, 0))], (M.1, (fj_u1 M.2 27 0 a1.toNatClampNeg ((M.2 27 0 a1.toNatClampNeg) - 1)))) rfl ?_
      by_cases hc5 : ((12 * a1) + ((fj_u1 M.2 27 0 a1.toNatClampNeg ((M.2 27 0 a1.toNatClampNeg) - 1)) 27 0 a1.toNatClampNeg)) < 0 ∨ 144 ≤ ((12 * a1) + ((fj_u1 M.2 27 0 a1.toNatClampNeg ((M.2 27 0 a1.toNatClampNeg) - 1)) 27 0 a1.toNatClampNeg)).toNatClampNeg
      · rw [if_pos hc5] at h
        cases h
      rw [if_neg hc5] at h
      refine fj_ald rfl rfl hc5 ?_
      by_cases hc6 : a1 < 0 ∨ 12 ≤ a1.toNatClampNeg
      · rw [if_pos hc6] at h
        cases h
      rw [if_neg hc6] at h
      refine fj_ast rfl rfl hc6 ?_
      cases h
      exact fj_rv rfl rfl
    · rw [if_neg hc1] at h
      refine fj_bt rfl (fj_nt hc1) ?_
      refine fj_blk 2 (110, 42, [some (.inr (20, 0)), some (.inl a1), some (.inl a2), some (.inl a3), some (.inl a4)], [(.inl 22), (.inl a2)], M) rfl ?_
      by_cases hc7 : a2 = 22
      · rw [if_pos hc7] at h
        refine fj_bf rfl (fj_nf hc7) ?_
        refine fj_blk 8 (110, 58, [some (.inr (20, 0)), some (.inl a1), some (.inl a2), some (.inl a3), some (.inl a4)], [(.inl a1), (.inr (27, 0)), (.inl (12 * a1)), (.inr (28, 0))], M) rfl ?_
        by_cases hc8 : a1 < 0 ∨ 12 ≤ a1.toNatClampNeg
        · rw [if_pos hc8] at h
          cases h
        rw [if_neg hc8] at h
        refine fj_ald rfl rfl hc8 ?_
        refine fj_blk 4 (110, 65, [some (.inr (20, 0)), some (.inl a1), some (.inl a2), some (.inl a3), some (.inl a4)], [(.inl a1), (.inr (24, 0)), (.inl ((12 * a1) + (M.2 27 0 a1.toNatClampNeg))), (.inr (28, 0))], M) rfl ?_
        by_cases hc9 : a1 < 0 ∨ 12 ≤ a1.toNatClampNeg
        · rw [if_pos hc9] at h
          cases h
        rw [if_neg hc9] at h
        refine fj_ald rfl rfl hc9 ?_
        by_cases hc10 : ((12 * a1) + (M.2 27 0 a1.toNatClampNeg)) < 0 ∨ 144 ≤ ((12 * a1) + (M.2 27 0 a1.toNatClampNeg)).toNatClampNeg
        · rw [if_pos hc10] at h
          cases h
        rw [if_neg hc10] at h
        refine fj_ast rfl rfl hc10 ?_
        refine fj_blk 4 (110, 73, [some (.inr (20, 0)), some (.inl a1), some (.inl a2), some (.inl a3), some (.inl a4)], [(.inl a1), (.inr (27, 0)), (.inl a1), (.inr (27, 0))], (M.1, (fj_u1 M.2 28 0 (((12 * a1) + (M.2 27 0 a1.toNatClampNeg)).toNatClampNeg) (M.2 24 0 a1.toNatClampNeg)))) rfl ?_
        by_cases hc11 : a1 < 0 ∨ 12 ≤ a1.toNatClampNeg
        · rw [if_pos hc11] at h
          cases h
        rw [if_neg hc11] at h
        refine fj_ald rfl rfl hc11 ?_
        refine fj_blk 2 (110, 76, [some (.inr (20, 0)), some (.inl a1), some (.inl a2), some (.inl a3), some (.inl a4)], [(.inl (((fj_u1 M.2 28 0 (((12 * a1) + (M.2 27 0 a1.toNatClampNeg)).toNatClampNeg) (M.2 24 0 a1.toNatClampNeg)) 27 0 a1.toNatClampNeg) + 1)), (.inl a1), (.inr (27, 0))], (M.1, (fj_u1 M.2 28 0 (((12 * a1) + (M.2 27 0 a1.toNatClampNeg)).toNatClampNeg) (M.2 24 0 a1.toNatClampNeg)))) rfl ?_
        by_cases hc12 : a1 < 0 ∨ 12 ≤ a1.toNatClampNeg
        · rw [if_pos hc12] at h
          cases h
        rw [if_neg hc12] at h
        refine fj_ast rfl rfl hc12 ?_
        exact de_110_77 X a1 a2 a3 a4 (M.1, (fj_u1 (fj_u1 M.2 28 0 (((12 * a1) + (M.2 27 0 a1.toNatClampNeg)).toNatClampNeg) (M.2 24 0 a1.toNatClampNeg)) 27 0 a1.toNatClampNeg (((fj_u1 M.2 28 0 (((12 * a1) + (M.2 27 0 a1.toNatClampNeg)).toNatClampNeg) (M.2 24 0 a1.toNatClampNeg)) 27 0 a1.toNatClampNeg) + 1))) r h
      · rw [if_neg hc7] at h
        refine fj_bt rfl (fj_nt hc7) ?_
        exact de_110_77 X a1 a2 a3 a4 M r h
def dm_111_110  (a1 : Int32) (a2 : Int32) (a3 : Int32) (a4 : Int32) (a5 : Int32) (a6 : Int32) (M : fj_M) : Option fj_M := ((dm_101 a1 0 a6 M).bind fun q1 => some q1)
set_option maxRecDepth 40000 in
theorem de_111_110 (X : fj_X) (a1 : Int32) (a2 : Int32) (a3 : Int32) (a4 : Int32) (a5 : Int32) (a6 : Int32) (M : fj_M) (r : fj_M) (h : dm_111_110 a1 a2 a3 a4 a5 a6 M = some r) : fj_ev X (111, 110, [some (.inr (20, 0)), some (.inl a1), some (.inl a2), some (.inl a3), some (.inl a4), some (.inl a5), some (.inl a6)], [], M) (none, r) := by
    unfold dm_111_110 at h
    refine fj_blk 4 (111, 115, [some (.inr (20, 0)), some (.inl a1), some (.inl a2), some (.inl a3), some (.inl a4), some (.inl a5), some (.inl a6)], [(.inl a6), (.inl 0), (.inl a1), (.inr (20, 0))], M) rfl ?_
    cases hq1 : dm_101 a1 0 a6 M with
    | none => rw [hq1] at h; cases h
    | some q1 =>
      rw [hq1, Option.bind_some] at h
      refine fj_cl rfl (de_101 X a1 0 a6 M _ hq1) ?_
      refine fj_blk 1 (111, 126, [some (.inr (20, 0)), some (.inl a1), some (.inl a2), some (.inl a3), some (.inl a4), some (.inl a5), some (.inl a6)], [], q1) rfl ?_
      cases h
      exact fj_rv rfl rfl
/-- X6_inMemory -/
def dm_111 (a1 : Int32) (a2 : Int32) (a3 : Int32) (a4 : Int32) (a5 : Int32) (M : fj_M) : Option fj_M := (if a2 = 24 then (if a3 < 0 ∨ 64 ≤ a3.toNatClampNeg then none else ((dm_101 a1 0 (M.2 22 0 a3.toNatClampNeg) M).bind fun q3 => some q3)) else (if a2 = 25 then (if a3 < 0 ∨ 64 ≤ a3.toNatClampNeg then none else some (M.1, (fj_u1 M.2 22 0 a3.toNatClampNeg a4))) else (if a2 = 26 then (if a4 < 0 ∨ 64 ≤ a4.toNatClampNeg then none else ((dm_101 a1 0 (M.2 22 0 a4.toNatClampNeg) M).bind fun q8 => some q8)) else (if a2 = 27 then (if a4 < 0 ∨ 64 ≤ a4.toNatClampNeg then none else some (M.1, (fj_u1 M.2 22 0 a4.toNatClampNeg a5))) else (if a2 = 28 then ((dm_83 M).bind fun q12 => (if q12.1 < 0 then dm_111_110 a1 a2 a3 a4 a5 q12.1 q12.2 else ((dm_84 q12.1 a3 a4 q12.2).bind fun q14 => dm_111_110 a1 a2 a3 a4 a5 q12.1 q14))) else some (M.1, (fj_u1 M.2 20 0 21 0)))))))
set_option maxRecDepth 40000 in
theorem de_111 (X : fj_X) (a1 : Int32) (a2 : Int32) (a3 : Int32) (a4 : Int32) (a5 : Int32) (M : fj_M) (r : fj_M) (h : dm_111 a1 a2 a3 a4 a5 M = some r) : fj_ev X (111, 0, [some (.inr (20, 0)), some (.inl a1), some (.inl a2), some (.inl a3), some (.inl a4), some (.inl a5), none], [], M) (none, r) := by
    unfold dm_111 at h
    refine fj_blk 1 (111, 1, [some (.inr (20, 0)), some (.inl a1), some (.inl a2), some (.inl a3), some (.inl a4), some (.inl a5), none], [(.inl a2)], M) rfl ?_
    by_cases hc1 : a2 = 24
    · rw [if_pos hc1] at h
      refine fj_swg (t := 36) rfl (by rw [hc1]; rfl) ?_
      refine fj_blk 6 (111, 44, [some (.inr (20, 0)), some (.inl a1), some (.inl a2), some (.inl a3), some (.inl a4), some (.inl a5), none], [(.inl a3), (.inr (22, 0)), (.inl 0), (.inl a1), (.inr (20, 0))], M) rfl ?_
      by_cases hc2 : a3 < 0 ∨ 64 ≤ a3.toNatClampNeg
      · rw [if_pos hc2] at h
        cases h
      rw [if_neg hc2] at h
      refine fj_ald rfl rfl hc2 ?_
      cases hq3 : dm_101 a1 0 (M.2 22 0 a3.toNatClampNeg) M with
      | none => rw [hq3] at h; cases h
      | some q3 =>
        rw [hq3, Option.bind_some] at h
        refine fj_cl rfl (de_101 X a1 0 (M.2 22 0 a3.toNatClampNeg) M _ hq3) ?_
        refine fj_blk 1 (111, 126, [some (.inr (20, 0)), some (.inl a1), some (.inl a2), some (.inl a3), some (.inl a4), some (.inl a5), none], [], q3) rfl ?_
        cases h
        exact fj_rv rfl rfl
    · rw [if_neg hc1] at h
      by_cases hc4 : a2 = 25
      · rw [if_pos hc4] at h
        refine fj_swg (t := 51) rfl (by rw [hc4]; rfl) ?_
        refine fj_blk 4 (111, 58, [some (.inr (20, 0)), some (.inl a1), some (.inl a2), some (.inl a3), some (.inl a4), some (.inl a5), none], [(.inl a4), (.inl a3), (.inr (22, 0))], M) rfl ?_
        by_cases hc5 : a3 < 0 ∨ 64 ≤ a3.toNatClampNeg
        · rw [if_pos hc5] at h
          cases h
        rw [if_neg hc5] at h
        refine fj_ast rfl rfl hc5 ?_
        refine fj_blk 1 (111, 126, [some (.inr (20, 0)), some (.inl a1), some (.inl a2), some (.inl a3), some (.inl a4), some (.inl a5), none], [], (M.1, (fj_u1 M.2 22 0 a3.toNatClampNeg a4))) rfl ?_
        cases h
        exact fj_rv rfl rfl
      · rw [if_neg hc4] at h
        by_cases hc6 : a2 = 26
        · rw [if_pos hc6] at h
          refine fj_swg (t := 62) rfl (by rw [hc6]; rfl) ?_
          refine fj_blk 6 (111, 71, [some (.inr (20, 0)), some (.inl a1), some (.inl a2), some (.inl a3), some (.inl a4), some (.inl a5), none], [(.inl a4), (.inr (22, 0)), (.inl 0), (.inl a1), (.inr (20, 0))], M) rfl ?_
          by_cases hc7 : a4 < 0 ∨ 64 ≤ a4.toNatClampNeg
          · rw [if_pos hc7] at h
            cases h
          rw [if_neg hc7] at h
          refine fj_ald rfl rfl hc7 ?_
          cases hq8 : dm_101 a1 0 (M.2 22 0 a4.toNatClampNeg) M with
          | none => rw [hq8] at h; cases h
          | some q8 =>
            rw [hq8, Option.bind_some] at h
            refine fj_cl rfl (de_101 X a1 0 (M.2 22 0 a4.toNatClampNeg) M _ hq8) ?_
            refine fj_blk 1 (111, 126, [some (.inr (20, 0)), some (.inl a1), some (.inl a2), some (.inl a3), some (.inl a4), some (.inl a5), none], [], q8) rfl ?_
            cases h
            exact fj_rv rfl rfl
        · rw [if_neg hc6] at h
          by_cases hc9 : a2 = 27
          · rw [if_pos hc9] at h
            refine fj_swg (t := 78) rfl (by rw [hc9]; rfl) ?_
            refine fj_blk 4 (111, 86, [some (.inr (20, 0)), some (.inl a1), some (.inl a2), some (.inl a3), some (.inl a4), some (.inl a5), none], [(.inl a5), (.inl a4), (.inr (22, 0))], M) rfl ?_
            by_cases hc10 : a4 < 0 ∨ 64 ≤ a4.toNatClampNeg
            · rw [if_pos hc10] at h
              cases h
            rw [if_neg hc10] at h
            refine fj_ast rfl rfl hc10 ?_
            refine fj_blk 1 (111, 126, [some (.inr (20, 0)), some (.inl a1), some (.inl a2), some (.inl a3), some (.inl a4), some (.inl a5), none], [], (M.1, (fj_u1 M.2 22 0 a4.toNatClampNeg a5))) rfl ?_
            cases h
            exact fj_rv rfl rfl
          · rw [if_neg hc9] at h
            by_cases hc11 : a2 = 28
            · rw [if_pos hc11] at h
              refine fj_swg (t := 90) rfl (by rw [hc11]; rfl) ?_
              refine fj_blk 1 (111, 91, [some (.inr (20, 0)), some (.inl a1), some (.inl a2), some (.inl a3), some (.inl a4), some (.inl a5), none], [(.inr (20, 0))], M) rfl ?_
              cases hq12 : dm_83 M with
              | none => rw [hq12] at h; cases h
              | some q12 =>
                rw [hq12, Option.bind_some] at h
                refine fj_cl rfl (de_83 X M _ hq12) ?_
                refine fj_blk 2 (111, 98, [some (.inr (20, 0)), some (.inl a1), some (.inl a2), some (.inl a3), some (.inl a4), some (.inl a5), some (.inl q12.1)], [(.inl q12.1)], q12.2) rfl ?_
                by_cases hc13 : q12.1 < 0
                · rw [if_pos hc13] at h
                  refine fj_bt rfl (decide_eq_true hc13) ?_
                  exact de_111_110 X a1 a2 a3 a4 a5 q12.1 q12.2 r h
                · rw [if_neg hc13] at h
                  refine fj_bf rfl (decide_eq_false hc13) ?_
                  refine fj_blk 4 (111, 107, [some (.inr (20, 0)), some (.inl a1), some (.inl a2), some (.inl a3), some (.inl a4), some (.inl a5), some (.inl q12.1)], [(.inl a4), (.inl a3), (.inl q12.1), (.inr (20, 0))], q12.2) rfl ?_
                  cases hq14 : dm_84 q12.1 a3 a4 q12.2 with
                  | none => rw [hq14] at h; cases h
                  | some q14 =>
                    rw [hq14, Option.bind_some] at h
                    refine fj_cl rfl (de_84 X q12.1 a3 a4 q12.2 _ hq14) ?_
                    exact de_111_110 X a1 a2 a3 a4 a5 q12.1 q14 r h
            · rw [if_neg hc11] at h
              refine fj_swg (t := 121) rfl (by simp only [fj_sw, hc1, hc4, hc6, hc9, hc11, if_false]) ?_
              refine fj_blk 3 (111, 126, [some (.inr (20, 0)), some (.inl a1), some (.inl a2), some (.inl a3), some (.inl a4), some (.inl a5), none], [], (M.1, (fj_u1 M.2 20 0 21 0))) rfl ?_
              cases h
              exact fj_rv rfl rfl
def dm_112_132  (a1 : Int32) (a2 : Int32) (a3 : Int32) (a4 : Int32) (s0 : Int32) (s1 : Int32) (s2 : Int32) (M : fj_M) : Option fj_M := (if s2 < 0 ∨ 12 ≤ s2.toNatClampNeg then none else some (M.1, (fj_u1 M.2 31 0 s2.toNatClampNeg (s1 + s0))))
set_option maxRecDepth 40000 in
theorem de_112_132 (X : fj_X) (a1 : Int32) (a2 : Int32) (a3 : Int32) (a4 : Int32) (s0 : Int32) (s1 : Int32) (s2 : Int32) (M : fj_M) (r : fj_M) (h : dm_112_132 a1 a2 a3 a4 s0 s1 s2 M = some r) : fj_ev X (112, 132, [some (.inr (20, 0)), some (.inl a1), some (.inl a2), some (.inl a3), some (.inl a4)], [(.inl s0), (.inl s1), (.inl s2), (.inr (31, 0))], M) (none, r) := by
    unfold dm_112_132 at h
    refine fj_blk 1 (112, 133, [some (.inr (20, 0)), some (.inl a1), some (.inl a2), some (.inl a3), some (.inl a4)], [(.inl (s1 + s0)), (.inl s2), (.inr (31, 0))], M) rfl ?_
    by_cases hc1 : s2 < 0 ∨ 12 ≤ s2.toNatClampNeg
    · rw [if_pos hc1] at h
      cases h
    rw [if_neg hc1] at h
    refine fj_ast rfl rfl hc1 ?_
    refine fj_blk 1 (112, 285, [some (.inr (20, 0)), some (.inl a1), some (.inl a2), some (.inl a3), some (.inl a4)], [], (M.1, (fj_u1 M.2 31 0 s2.toNatClampNeg (s1 + s0)))) rfl ?_
    cases h
    exact fj_rv rfl rfl
/-- X6_act -/
def dm_112 (a1 : Int32) (a2 : Int32) (a3 : Int32) (a4 : Int32) (M : fj_M) : Option fj_M := (if a2 = 30 then (if a1 < 0 ∨ 12 ≤ a1.toNatClampNeg then none else (if a1 < 0 ∨ 12 ≤ a1.toNatClampNeg then none else some (M.1, (fj_u1 (fj_u1 M.2 23 0 a1.toNatClampNeg 7) 32 0 a1.toNatClampNeg a4)))) else (if a2 = 31 then ((dm_100 a1 a4 M).bind fun q5 => ((dm_101 a1 0 q5.1 q5.2).bind fun q6 => some q6)) else (if a2 = 32 then ((dm_100 a1 a4 M).bind fun q8 => ((dm_101 a1 0 q8.1 q8.2).bind fun q9 => some q9)) else (if a2 = 33 then ((dm_100 a1 a4 M).bind fun q11 => ((dm_101 a1 0 q11.1 q11.2).bind fun q12 => some q12)) else (if a2 = 34 then ((dm_100 a1 a4 M).bind fun q14 => ((dm_101 a1 0 q14.1 q14.2).bind fun q15 => some q15)) else (if a2 = 35 then ((dm_100 a1 a4 M).bind fun q17 => ((dm_101 a1 0 q17.1 q17.2).bind fun q18 => some q18)) else (if a2 = 36 then (if a4 ≤ 0 then some M else (if a1 < 0 ∨ 12 ≤ a1.toNatClampNeg then none else (if 1000000 ≤ a4 then dm_112_132 a1 a2 a3 a4 1000000 (((fj_u1 M.2 23 0 a1.toNatClampNeg 5) 20 0 19) + 1) a1 (M.1, (fj_u1 M.2 23 0 a1.toNatClampNeg 5)) else dm_112_132 a1 a2 a3 a4 a4 (((fj_u1 M.2 23 0 a1.toNatClampNeg 5) 20 0 19) + 1) a1 (M.1, (fj_u1 M.2 23 0 a1.toNatClampNeg 5))))) else (if a2 = 37 then ((dm_101 a1 0 a1 M).bind fun q24 => some q24) else (if a2 = 38 then ((dm_101 a1 0 (M.2 20 0 19) M).bind fun q26 => some q26) else (if a2 = 39 then (if 300 ≤ (M.2 20 0 18) then some (M.1, (fj_u1 M.2 20 0 18 ((M.2 20 0 18) + 1))) else (if (M.2 20 0 18) < 0 ∨ 300 ≤ (M.2 20 0 18).toNatClampNeg then none else some (M.1, (fj_u1 (fj_u1 M.2 38 0 ((M.2 20 0 18).toNatClampNeg) a4) 20 0 18 (((fj_u1 M.2 38 0 ((M.2 20 0 18).toNatClampNeg) a4) 20 0 18) + 1))))) else (if a2 = 40 then ((dm_82 a4 M).bind fun q31 => (if q31.1 = 0 then some q31.2 else ((dm_94 a4 9 0 q31.2).bind fun q33 => some q33))) else (if a2 = 41 then (if a4 < 0 ∨ 12 ≤ a4.toNatClampNeg then none else ((dm_101 a1 0 (M.2 32 0 a4.toNatClampNeg) M).bind fun q36 => some q36)) else (if a2 = 42 then (if a1 < 0 ∨ 12 ≤ a1.toNatClampNeg then none else some (M.1, (fj_u1 M.2 29 0 a1.toNatClampNeg a3))) else (if a2 = 43 then (if a1 < 0 ∨ 12 ≤ a1.toNatClampNeg then none else (if a1 < 0 ∨ 12 ≤ a1.toNatClampNeg then none else some (M.1, (fj_u1 M.2 30 0 a1.toNatClampNeg ((M.2 30 0 a1.toNatClampNeg) ||| (1 <<< (a4 &&& 31))))))) else (if a2 = 44 then (if a3 < 0 ∨ 6 ≤ a3.toNatClampNeg then none else ((dm_101 a1 0 (M.2 36 0 a3.toNatClampNeg) M).bind fun q44 => some q44)) else ((dm_100 a1 a4 M).bind fun q45 => ((dm_101 a1 0 q45.1 q45.2).bind fun q46 => some q46)))))))))))))))))
set_option maxRecDepth 40000 in
theorem de_112 (X : fj_X) (a1 : Int32) (a2 : Int32) (a3 : Int32) (a4 : Int32) (M : fj_M) (r : fj_M) (h : dm_112 a1 a2 a3 a4 M = some r) : fj_ev X (112, 0, [some (.inr (20, 0)), some (.inl a1), some (.inl a2), some (.inl a3), some (.inl a4)], [], M) (none, r) := by
    unfold dm_112 at h
    refine fj_blk 1 (112, 1, [some (.inr (20, 0)), some (.inl a1), some (.inl a2), some (.inl a3), some (.inl a4)], [(.inl a2)], M) rfl ?_
    by_cases hc1 : a2 = 30
    · rw [if_pos hc1] at h
      refine fj_swg (t := 76) rfl (by rw [hc1]; rfl) ?_
      refine fj_blk 4 (112, 83, [some (.inr (20, 0)), some (.inl a1), some (.inl a2), some (.inl a3), some (.inl a4)], [(.inl 7), (.inl a1), (.inr (23, 0))], M) rfl ?_
      by_cases hc2 : a1 < 0 ∨ 12 ≤ a1.toNatClampNeg
      · rw [if_pos hc2] at h
        cases h
      rw [if_neg hc2] at h
      refine fj_ast rfl rfl hc2 ?_
      refine fj_blk 4 (112, 91, [some (.inr (20, 0)), some (.inl a1), some (.inl a2), some (.inl a3), some (.inl a4)], [(.inl a4), (.inl a1), (.inr (32, 0))], (M.1, (fj_u1 M.2 23 0 a1.toNatClampNeg 7))) rfl ?_
      by_cases hc3 : a1 < 0 ∨ 12 ≤ a1.toNatClampNeg
      · rw [if_pos hc3] at h
        cases h
      rw [if_neg hc3] at h
      refine fj_ast rfl rfl hc3 ?_
      refine fj_blk 1 (112, 285, [some (.inr (20, 0)), some (.inl a1), some (.inl a2), some (.inl a3), some (.inl a4)], [], (M.1, (fj_u1 (fj_u1 M.2 23 0 a1.toNatClampNeg 7) 32 0 a1.toNatClampNeg a4))) rfl ?_
      cases h
      exact fj_rv rfl rfl
    · rw [if_neg hc1] at h
      by_cases hc4 : a2 = 31
      · rw [if_pos hc4] at h
        refine fj_swg (t := 272) rfl (by rw [hc4]; rfl) ?_
        refine fj_blk 6 (112, 279, [some (.inr (20, 0)), some (.inl a1), some (.inl a2), some (.inl a3), some (.inl a4)], [(.inl a4), (.inl a1), (.inr (20, 0)), (.inl 0), (.inl a1), (.inr (20, 0))], M) rfl ?_
        cases hq5 : dm_100 a1 a4 M with
        | none => rw [hq5] at h; cases h
        | some q5 =>
          rw [hq5, Option.bind_some] at h
          refine fj_cl rfl (de_100 X a1 a4 M _ hq5) ?_
          cases hq6 : dm_101 a1 0 q5.1 q5.2 with
          | none => rw [hq6] at h; cases h
          | some q6 =>
            rw [hq6, Option.bind_some] at h
            refine fj_cl rfl (de_101 X a1 0 q5.1 q5.2 _ hq6) ?_
            cases h
            exact fj_rv rfl rfl
      · rw [if_neg hc4] at h
        by_cases hc7 : a2 = 32
        · rw [if_pos hc7] at h
          refine fj_swg (t := 272) rfl (by rw [hc7]; rfl) ?_
          refine fj_blk 6 (112, 279, [some (.inr (20, 0)), some (.inl a1), some (.inl a2), some (.inl a3), some (.inl a4)], [(.inl a4), (.inl a1), (.inr (20, 0)), (.inl 0), (.inl a1), (.inr (20, 0))], M) rfl ?_
          cases hq8 : dm_100 a1 a4 M with
          | none => rw [hq8] at h; cases h
          | some q8 =>
            rw [hq8, Option.bind_some] at h
            refine fj_cl rfl (de_100 X a1 a4 M _ hq8) ?_
            cases hq9 : dm_101 a1 0 q8.1 q8.2 with
            | none => rw [hq9] at h; cases h
            | some q9 =>
              rw [hq9, Option.bind_some] at h
              refine fj_cl rfl (de_101 X a1 0 q8.1 q8.2 _ hq9) ?_
              cases h
              exact fj_rv rfl rfl
        · rw [if_neg hc7] at h
          by_cases hc10 : a2 = 33
          · rw [if_pos hc10] at h
            refine fj_swg (t := 272) rfl (by rw [hc10]; rfl) ?_
            refine fj_blk 6 (112, 279, [some (.inr (20, 0)), some (.inl a1), some (.inl a2), some (.inl a3), some (.inl a4)], [(.inl a4), (.inl a1), (.inr (20, 0)), (.inl 0), (.inl a1), (.inr (20, 0))], M) rfl ?_
            cases hq11 : dm_100 a1 a4 M with
            | none => rw [hq11] at h; cases h
            | some q11 =>
              rw [hq11, Option.bind_some] at h
              refine fj_cl rfl (de_100 X a1 a4 M _ hq11) ?_
              cases hq12 : dm_101 a1 0 q11.1 q11.2 with
              | none => rw [hq12] at h; cases h
              | some q12 =>
                rw [hq12, Option.bind_some] at h
                refine fj_cl rfl (de_101 X a1 0 q11.1 q11.2 _ hq12) ?_
                cases h
                exact fj_rv rfl rfl
          · rw [if_neg hc10] at h
            by_cases hc13 : a2 = 34
            · rw [if_pos hc13] at h
              refine fj_swg (t := 272) rfl (by rw [hc13]; rfl) ?_
              refine fj_blk 6 (112, 279, [some (.inr (20, 0)), some (.inl a1), some (.inl a2), some (.inl a3), some (.inl a4)], [(.inl a4), (.inl a1), (.inr (20, 0)), (.inl 0), (.inl a1), (.inr (20, 0))], M) rfl ?_
              cases hq14 : dm_100 a1 a4 M with
              | none => rw [hq14] at h; cases h
              | some q14 =>
                rw [hq14, Option.bind_some] at h
                refine fj_cl rfl (de_100 X a1 a4 M _ hq14) ?_
                cases hq15 : dm_101 a1 0 q14.1 q14.2 with
                | none => rw [hq15] at h; cases h
                | some q15 =>
                  rw [hq15, Option.bind_some] at h
                  refine fj_cl rfl (de_101 X a1 0 q14.1 q14.2 _ hq15) ?_
                  cases h
                  exact fj_rv rfl rfl
            · rw [if_neg hc13] at h
              by_cases hc16 : a2 = 35
              · rw [if_pos hc16] at h
                refine fj_swg (t := 272) rfl (by rw [hc16]; rfl) ?_
                refine fj_blk 6 (112, 279, [some (.inr (20, 0)), some (.inl a1), some (.inl a2), some (.inl a3), some (.inl a4)], [(.inl a4), (.inl a1), (.inr (20, 0)), (.inl 0), (.inl a1), (.inr (20, 0))], M) rfl ?_
                cases hq17 : dm_100 a1 a4 M with
                | none => rw [hq17] at h; cases h
                | some q17 =>
                  rw [hq17, Option.bind_some] at h
                  refine fj_cl rfl (de_100 X a1 a4 M _ hq17) ?_
                  cases hq18 : dm_101 a1 0 q17.1 q17.2 with
                  | none => rw [hq18] at h; cases h
                  | some q18 =>
                    rw [hq18, Option.bind_some] at h
                    refine fj_cl rfl (de_101 X a1 0 q17.1 q17.2 _ hq18) ?_
                    cases h
                    exact fj_rv rfl rfl
              · rw [if_neg hc16] at h
                by_cases hc19 : a2 = 36
                · rw [if_pos hc19] at h
                  refine fj_swg (t := 95) rfl (by rw [hc19]; rfl) ?_
                  refine fj_blk 1 (112, 97, [some (.inr (20, 0)), some (.inl a1), some (.inl a2), some (.inl a3), some (.inl a4)], [(.inl a4)], M) rfl ?_
                  by_cases hc20 : a4 ≤ 0
                  · rw [if_pos hc20] at h
                    refine fj_bt rfl (decide_eq_true hc20) ?_
                    cases h
                    exact fj_rv rfl rfl
                  · rw [if_neg hc20] at h
                    refine fj_bf rfl (decide_eq_false hc20) ?_
                    refine fj_blk 4 (112, 106, [some (.inr (20, 0)), some (.inl a1), some (.inl a2), some (.inl a3), some (.inl a4)], [(.inl 5), (.inl a1), (.inr (23, 0))], M) rfl ?_
                    by_cases hc21 : a1 < 0 ∨ 12 ≤ a1.toNatClampNeg
                    · rw [if_pos hc21] at h
                      cases h
                    rw [if_neg hc21] at h
                    refine fj_ast rfl rfl hc21 ?_
                    refine fj_blk 9 (112, 122, [some (.inr (20, 0)), some (.inl a1), some (.inl a2), some (.inl a3), some (.inl a4)], [(.inl 1000000), (.inl a4), (.inl (((fj_u1 M.2 23 0 a1.toNatClampNeg 5) 20 0 19) + 1)), (.inl a1), (.inr (31, 0))], (M.1, (fj_u1 M.2 23 0 a1.toNatClampNeg 5))) rfl ?_
                    by_cases hc22 : 1000000 ≤ a4
                    · rw [if_pos hc22] at h
                      refine fj_bt rfl (decide_eq_true hc22) ?_
                      refine fj_blk 1 (112, 132, [some (.inr (20, 0)), some (.inl a1), some (.inl a2), some (.inl a3), some (.inl a4)], [(.inl 1000000), (.inl (((fj_u1 M.2 23 0 a1.toNatClampNeg 5) 20 0 19) + 1)), (.inl a1), (.inr (31, 0))], (M.1, (fj_u1 M.2 23 0 a1.toNatClampNeg 5))) rfl ?_
                      exact de_112_132 X a1 a2 a3 a4 1000000 (((fj_u1 M.2 23 0 a1.toNatClampNeg 5) 20 0 19) + 1) a1 (M.1, (fj_u1 M.2 23 0 a1.toNatClampNeg 5)) r h
                    · rw [if_neg hc22] at h
                      refine fj_bf rfl (decide_eq_false hc22) ?_
                      refine fj_blk 2 (112, 132, [some (.inr (20, 0)), some (.inl a1), some (.inl a2), some (.inl a3), some (.inl a4)], [(.inl a4), (.inl (((fj_u1 M.2 23 0 a1.toNatClampNeg 5) 20 0 19) + 1)), (.inl a1), (.inr (31, 0))], (M.1, (fj_u1 M.2 23 0 a1.toNatClampNeg 5))) rfl ?_
                      exact de_112_132 X a1 a2 a3 a4 a4 (((fj_u1 M.2 23 0 a1.toNatClampNeg 5) 20 0 19) + 1) a1 (M.1, (fj_u1 M.2 23 0 a1.toNatClampNeg 5)) r h
                · rw [if_neg hc19] at h
                  by_cases hc23 : a2 = 37
                  · rw [if_pos hc23] at h
                    refine fj_swg (t := 137) rfl (by rw [hc23]; rfl) ?_
                    refine fj_blk 4 (112, 141, [some (.inr (20, 0)), some (.inl a1), some (.inl a2), some (.inl a3), some (.inl a4)], [(.inl a1), (.inl 0), (.inl a1), (.inr (20, 0))], M) rfl ?_
                    cases hq24 : dm_101 a1 0 a1 M with
                    | none => rw [hq24] at h; cases h
                    | some q24 =>
                      rw [hq24, Option.bind_some] at h
                      refine fj_cl rfl (de_101 X a1 0 a1 M _ hq24) ?_
                      refine fj_blk 1 (112, 285, [some (.inr (20, 0)), some (.inl a1), some (.inl a2), some (.inl a3), some (.inl a4)], [], q24) rfl ?_
                      cases h
                      exact fj_rv rfl rfl
                  · rw [if_neg hc23] at h
                    by_cases hc25 : a2 = 38
                    · rw [if_pos hc25] at h
                      refine fj_swg (t := 147) rfl (by rw [hc25]; rfl) ?_
                      refine fj_blk 5 (112, 154, [some (.inr (20, 0)), some (.inl a1), some (.inl a2), some (.inl a3), some (.inl a4)], [(.inl (M.2 20 0 19)), (.inl 0), (.inl a1), (.inr (20, 0))], M) rfl ?_
                      cases hq26 : dm_101 a1 0 (M.2 20 0 19) M with
                      | none => rw [hq26] at h; cases h
                      | some q26 =>
                        rw [hq26, Option.bind_some] at h
                        refine fj_cl rfl (de_101 X a1 0 (M.2 20 0 19) M _ hq26) ?_
                        refine fj_blk 1 (112, 285, [some (.inr (20, 0)), some (.inl a1), some (.inl a2), some (.inl a3), some (.inl a4)], [], q26) rfl ?_
                        cases h
                        exact fj_rv rfl rfl
                    · rw [if_neg hc25] at h
                      by_cases hc27 : a2 = 39
                      · rw [if_pos hc27] at h
                        refine fj_swg (t := 160) rfl (by rw [hc27]; rfl) ?_
                        refine fj_blk 3 (112, 167, [some (.inr (20, 0)), some (.inl a1), some (.inl a2), some (.inl a3), some (.inl a4)], [(.inl 300), (.inl (M.2 20 0 18))], M) rfl ?_
                        by_cases hc28 : 300 ≤ (M.2 20 0 18)
                        · rw [if_pos hc28] at h
                          refine fj_bt rfl (decide_eq_true hc28) ?_
                          refine fj_blk 7 (112, 285, [some (.inr (20, 0)), some (.inl a1), some (.inl a2), some (.inl a3), some (.inl a4)], [], (M.1, (fj_u1 M.2 20 0 18 ((M.2 20 0 18) + 1)))) rfl ?_
                          cases h
                          exact fj_rv rfl rfl
                        · rw [if_neg hc28] at h
                          refine fj_bf rfl (decide_eq_false hc28) ?_
                          refine fj_blk 5 (112, 180, [some (.inr (20, 0)), some (.inl a1), some (.inl a2), some (.inl a3), some (.inl a4)], [(.inl a4), (.inl (M.2 20 0 18)), (.inr (38, 0))], M) rfl ?_
                          by_cases hc29 : (M.2 20 0 18) < 0 ∨ 300 ≤ (M.2 20 0 18).toNatClampNeg
                          · rw [if_pos hc29] at h
                            cases h
                          rw [if_neg hc29] at h
                          refine fj_ast rfl rfl hc29 ?_
                          refine fj_blk 7 (112, 285, [some (.inr (20, 0)), some (.inl a1), some (.inl a2), some (.inl a3), some (.inl a4)], [], (M.1, (fj_u1 (fj_u1 M.2 38 0 ((M.2 20 0 18).toNatClampNeg) a4) 20 0 18 (((fj_u1 M.2 38 0 ((M.2 20 0 18).toNatClampNeg) a4) 20 0 18) + 1)))) rfl ?_
                          cases h
                          exact fj_rv rfl rfl
                      · rw [if_neg hc27] at h
                        by_cases hc30 : a2 = 40
                        · rw [if_pos hc30] at h
                          refine fj_swg (t := 194) rfl (by rw [hc30]; rfl) ?_
                          refine fj_blk 2 (112, 197, [some (.inr (20, 0)), some (.inl a1), some (.inl a2), some (.inl a3), some (.inl a4)], [(.inl a4), (.inr (20, 0))], M) rfl ?_
                          cases hq31 : dm_82 a4 M with
                          | none => rw [hq31] at h; cases h
                          | some q31 =>
                            rw [hq31, Option.bind_some] at h
                            refine fj_cl rfl (de_82 X a4 M _ hq31) ?_
                            by_cases hc32 : q31.1 = 0
                            · rw [if_pos hc32] at h
                              refine fj_bt rfl (decide_eq_true hc32) ?_
                              cases h
                              exact fj_rv rfl rfl
                            · rw [if_neg hc32] at h
                              refine fj_bf rfl (decide_eq_false hc32) ?_
                              refine fj_blk 4 (112, 209, [some (.inr (20, 0)), some (.inl a1), some (.inl a2), some (.inl a3), some (.inl a4)], [(.inl 0), (.inl 9), (.inl a4), (.inr (20, 0))], q31.2) rfl ?_
                              cases hq33 : dm_94 a4 9 0 q31.2 with
                              | none => rw [hq33] at h; cases h
                              | some q33 =>
                                rw [hq33, Option.bind_some] at h
                                refine fj_cl rfl (de_94 X a4 9 0 q31.2 _ hq33) ?_
                                refine fj_blk 1 (112, 285, [some (.inr (20, 0)), some (.inl a1), some (.inl a2), some (.inl a3), some (.inl a4)], [], q33) rfl ?_
                                cases h
                                exact fj_rv rfl rfl
                        · rw [if_neg hc30] at h
                          by_cases hc34 : a2 = 41
                          · rw [if_pos hc34] at h
                            refine fj_swg (t := 215) rfl (by rw [hc34]; rfl) ?_
                            refine fj_blk 6 (112, 224, [some (.inr (20, 0)), some (.inl a1), some (.inl a2), some (.inl a3), some (.inl a4)], [(.inl a4), (.inr (32, 0)), (.inl 0), (.inl a1), (.inr (20, 0))], M) rfl ?_
                            by_cases hc35 : a4 < 0 ∨ 12 ≤ a4.toNatClampNeg
                            · rw [if_pos hc35] at h
                              cases h
                            rw [if_neg hc35] at h
                            refine fj_ald rfl rfl hc35 ?_
                            cases hq36 : dm_101 a1 0 (M.2 32 0 a4.toNatClampNeg) M with
                            | none => rw [hq36] at h; cases h
                            | some q36 =>
                              rw [hq36, Option.bind_some] at h
                              refine fj_cl rfl (de_101 X a1 0 (M.2 32 0 a4.toNatClampNeg) M _ hq36) ?_
                              refine fj_blk 1 (112, 285, [some (.inr (20, 0)), some (.inl a1), some (.inl a2), some (.inl a3), some (.inl a4)], [], q36) rfl ?_
                              cases h
                              exact fj_rv rfl rfl
                          · rw [if_neg hc34] at h
                            by_cases hc37 : a2 = 42
                            · rw [if_pos hc37] at h
                              refine fj_swg (t := 231) rfl (by rw [hc37]; rfl) ?_
                              refine fj_blk 4 (112, 237, [some (.inr (20, 0)), some (.inl a1), some (.inl a2), some (.inl a3), some (.inl a4)], [(.inl a3), (.inl a1), (.inr (29, 0))], M) rfl ?_
                              by_cases hc38 : a1 < 0 ∨ 12 ≤ a1.toNatClampNeg
                              · rw [if_pos hc38] at h
                                cases h
                              rw [if_neg hc38] at h
                              refine fj_ast rfl rfl hc38 ?_
                              refine fj_blk 1 (112, 285, [some (.inr (20, 0)), some (.inl a1), some (.inl a2), some (.inl a3), some (.inl a4)], [], (M.1, (fj_u1 M.2 29 0 a1.toNatClampNeg a3))) rfl ?_
                              cases h
                              exact fj_rv rfl rfl
                            · rw [if_neg hc37] at h
                              by_cases hc39 : a2 = 43
                              · rw [if_pos hc39] at h
                                refine fj_swg (t := 241) rfl (by rw [hc39]; rfl) ?_
                                refine fj_blk 4 (112, 247, [some (.inr (20, 0)), some (.inl a1), some (.inl a2), some (.inl a3), some (.inl a4)], [(.inl a1), (.inr (30, 0)), (.inl a1), (.inr (30, 0))], M) rfl ?_
                                by_cases hc40 : a1 < 0 ∨ 12 ≤ a1.toNatClampNeg
                                · rw [if_pos hc40] at h
                                  cases h
                                rw [if_neg hc40] at h
                                refine fj_ald rfl rfl hc40 ?_
                                refine fj_blk 4 (112, 253, [some (.inr (20, 0)), some (.inl a1), some (.inl a2), some (.inl a3), some (.inl a4)], [(.inl ((M.2 30 0 a1.toNatClampNeg) ||| (1 <<< (a4 &&& 31)))), (.inl a1), (.inr (30, 0))], M) rfl ?_
                                by_cases hc41 : a1 < 0 ∨ 12 ≤ a1.toNatClampNeg
                                · rw [if_pos hc41] at h
                                  cases h
                                rw [if_neg hc41] at h
                                refine fj_ast rfl rfl hc41 ?_
                                refine fj_blk 1 (112, 285, [some (.inr (20, 0)), some (.inl a1), some (.inl a2), some (.inl a3), some (.inl a4)], [], (M.1, (fj_u1 M.2 30 0 a1.toNatClampNeg ((M.2 30 0 a1.toNatClampNeg) ||| (1 <<< (a4 &&& 31)))))) rfl ?_
                                cases h
                                exact fj_rv rfl rfl
                              · rw [if_neg hc39] at h
                                by_cases hc42 : a2 = 44
                                · rw [if_pos hc42] at h
                                  refine fj_swg (t := 257) rfl (by rw [hc42]; rfl) ?_
                                  refine fj_blk 6 (112, 265, [some (.inr (20, 0)), some (.inl a1), some (.inl a2), some (.inl a3), some (.inl a4)], [(.inl a3), (.inr (36, 0)), (.inl 0), (.inl a1), (.inr (20, 0))], M) rfl ?_
                                  by_cases hc43 : a3 < 0 ∨ 6 ≤ a3.toNatClampNeg
                                  · rw [if_pos hc43] at h
                                    cases h
                                  rw [if_neg hc43] at h
                                  refine fj_ald rfl rfl hc43 ?_
                                  cases hq44 : dm_101 a1 0 (M.2 36 0 a3.toNatClampNeg) M with
                                  | none => rw [hq44] at h; cases h
                                  | some q44 =>
                                    rw [hq44, Option.bind_some] at h
                                    refine fj_cl rfl (de_101 X a1 0 (M.2 36 0 a3.toNatClampNeg) M _ hq44) ?_
                                    refine fj_blk 1 (112, 285, [some (.inr (20, 0)), some (.inl a1), some (.inl a2), some (.inl a3), some (.inl a4)], [], q44) rfl ?_
                                    cases h
                                    exact fj_rv rfl rfl
                                · rw [if_neg hc42] at h
                                  refine fj_swg (t := 272) rfl (by simp only [fj_sw, hc1, hc4, hc7, hc10, hc13, hc16, hc19, hc23, hc25, hc27, hc30, hc34, hc37, hc39, hc42, if_false]) ?_
                                  refine fj_blk 6 (112, 279, [some (.inr (20, 0)), some (.inl a1), some (.inl a2), some (.inl a3), some (.inl a4)], [(.inl a4), (.inl a1), (.inr (20, 0)), (.inl 0), (.inl a1), (.inr (20, 0))], M) rfl ?_
                                  cases hq45 : dm_100 a1 a4 M with
                                  | none => rw [hq45] at h; cases h
                                  | some q45 =>
                                    rw [hq45, Option.bind_some] at h
                                    refine fj_cl rfl (de_100 X a1 a4 M _ hq45) ?_
                                    cases hq46 : dm_101 a1 0 q45.1 q45.2 with
                                    | none => rw [hq46] at h; cases h
                                    | some q46 =>
                                      rw [hq46, Option.bind_some] at h
                                      refine fj_cl rfl (de_101 X a1 0 q45.1 q45.2 _ hq46) ?_
                                      cases h
                                      exact fj_rv rfl rfl
def dm_109_114  (a1 : Int32) (a2 : Int32) (a3 : Int32) (a4 : Int32) (a5 : Int32) (a6 : Int32) (M : fj_M) : Option (Int32 × fj_M) := (if a1 < 0 ∨ 12 ≤ a1.toNatClampNeg then none else (if a1 < 0 ∨ 12 ≤ a1.toNatClampNeg then none else (if a1 < 0 ∨ 12 ≤ a1.toNatClampNeg then none else ((dm_99 a2 (M.1, (fj_u1 M.2 24 0 a1.toNatClampNeg ((M.2 24 0 a1.toNatClampNeg) + 1)))).bind fun q4 => (if a1 < 0 ∨ 12 ≤ a1.toNatClampNeg then none else (if 24 ≤ a2 then (if 30 ≤ a2 then ((dm_112 a1 a2 a3 a4 (q4.2.1, (fj_u1 q4.2.2 25 0 a1.toNatClampNeg (((fj_u1 M.2 24 0 a1.toNatClampNeg ((M.2 24 0 a1.toNatClampNeg) + 1)) 25 0 a1.toNatClampNeg) - q4.1)))).bind fun q8 => some (0, q8)) else ((dm_111 a1 a2 a3 a4 a5 (q4.2.1, (fj_u1 q4.2.2 25 0 a1.toNatClampNeg (((fj_u1 M.2 24 0 a1.toNatClampNeg ((M.2 24 0 a1.toNatClampNeg) + 1)) 25 0 a1.toNatClampNeg) - q4.1)))).bind fun q9 => some (0, q9))) else ((dm_110 a1 a2 a3 a4 (q4.2.1, (fj_u1 q4.2.2 25 0 a1.toNatClampNeg (((fj_u1 M.2 24 0 a1.toNatClampNeg ((M.2 24 0 a1.toNatClampNeg) + 1)) 25 0 a1.toNatClampNeg) - q4.1)))).bind fun q10 => some (0, q10))))))))
set_option maxRecDepth 40000 in
theorem de_109_114 (X : fj_X) (a1 : Int32) (a2 : Int32) (a3 : Int32) (a4 : Int32) (a5 : Int32) (a6 : Int32) (M : fj_M) (r : (Int32 × fj_M)) (h : dm_109_114 a1 a2 a3 a4 a5 a6 M = some r) : fj_ev X (109, 114, [some (.inr (20, 0)), some (.inl a1), some (.inl a2), some (.inl a3), some (.inl a4), some (.inl a5), some (.inl a6)], [], M) (some r.1, r.2) := by
    unfold dm_109_114 at h
    refine fj_blk 4 (109, 120, [some (.inr (20, 0)), some (.inl a1), some (.inl a2), some (.inl a3), some (.inl a4), some (.inl a5), some (.inl a6)], [(.inl a1), (.inr (24, 0)), (.inl a1), (.inr (24, 0))], M) rfl ?_
    by_cases hc1 : a1 < 0 ∨ 12 ≤ a1.toNatClampNeg
    · rw [if_pos hc1] at h
      cases h
    rw [if_neg hc1] at h
    refine fj_ald rfl rfl hc1 ?_
    refine fj_blk 2 (109, 123, [some (.inr (20, 0)), some (.inl a1), some (.inl a2), some (.inl a3), some (.inl a4), some (.inl a5), some (.inl a6)], [(.inl ((M.2 24 0 a1.toNatClampNeg) + 1)), (.inl a1), (.inr (24, 0))], M) rfl ?_
    by_cases hc2 : a1 < 0 ∨ 12 ≤ a1.toNatClampNeg
    · rw [if_pos hc2] at h
      cases h
    rw [if_neg hc2] at h
    refine fj_ast rfl rfl hc2 ?_
    refine fj_blk 4 (109, 130, [some (.inr (20, 0)), some (.inl a1), some (.inl a2), some (.inl a3), some (.inl a4), some (.inl a5), some (.inl a6)], [(.inl a1), (.inr (25, 0)), (.inl a1), (.inr (25, 0))], (M.1, (fj_u1 M.2 24 0 a1.toNatClampNeg ((M.2 24 0 a1.toNatClampNeg) + 1)))) rfl ?_
    by_cases hc3 : a1 < 0 ∨ 12 ≤ a1.toNatClampNeg
    · rw [if_pos hc3] at h
      cases h
    rw [if_neg hc3] at h
    refine fj_ald rfl rfl hc3 ?_
    refine fj_blk 1 (109, 132, [some (.inr (20, 0)), some (.inl a1), some (.inl a2), some (.inl a3), some (.inl a4), some (.inl a5), some (.inl a6)], [(.inl a2), (.inl ((fj_u1 M.2 24 0 a1.toNatClampNeg ((M.2 24 0 a1.toNatClampNeg) + 1)) 25 0 a1.toNatClampNeg)), (.inl a1), (.inr (25, 0))], (M.1, (fj_u1 M.2 24 0 a1.toNatClampNeg ((M.2 24 0 a1.toNatClampNeg) + 1)))) rfl ?_
    cases hq4 : dm_99 a2 (M.1, (fj_u1 M.2 24 0 a1.toNatClampNeg ((M.2 24 0 a1.toNatClampNeg) + 1))) with
    | none => rw [hq4] at h; cases h
    | some q4 =>
      rw [hq4, Option.bind_some] at h
      refine fj_cl rfl (de_99 X a2 (M.1, (fj_u1 M.2 24 0 a1.toNatClampNeg ((M.2 24 0 a1.toNatClampNeg) + 1))) _ hq4) ?_
      refine fj_blk 1 (109, 136, [some (.inr (20, 0)), some (.inl a1), some (.inl a2), some (.inl a3), some (.inl a4), some (.inl a5), some (.inl a6)], [(.inl (((fj_u1 M.2 24 0 a1.toNatClampNeg ((M.2 24 0 a1.toNatClampNeg) + 1)) 25 0 a1.toNatClampNeg) - q4.1)), (.inl a1), (.inr (25, 0))], q4.2) rfl ?_
      by_cases hc5 : a1 < 0 ∨ 12 ≤ a1.toNatClampNeg
      · rw [if_pos hc5] at h
        cases h
      rw [if_neg hc5] at h
      refine fj_ast rfl rfl hc5 ?_
      refine fj_blk 2 (109, 140, [some (.inr (20, 0)), some (.inl a1), some (.inl a2), some (.inl a3), some (.inl a4), some (.inl a5), some (.inl a6)], [(.inl 24), (.inl a2)], (q4.2.1, (fj_u1 q4.2.2 25 0 a1.toNatClampNeg (((fj_u1 M.2 24 0 a1.toNatClampNeg ((M.2 24 0 a1.toNatClampNeg) + 1)) 25 0 a1.toNatClampNeg) - q4.1)))) rfl ?_
      by_cases hc6 : 24 ≤ a2
      · rw [if_pos hc6] at h
        refine fj_bt rfl (decide_eq_true hc6) ?_
        refine fj_blk 2 (109, 158, [some (.inr (20, 0)), some (.inl a1), some (.inl a2), some (.inl a3), some (.inl a4), some (.inl a5), some (.inl a6)], [(.inl 30), (.inl a2)], (q4.2.1, (fj_u1 q4.2.2 25 0 a1.toNatClampNeg (((fj_u1 M.2 24 0 a1.toNatClampNeg ((M.2 24 0 a1.toNatClampNeg) + 1)) 25 0 a1.toNatClampNeg) - q4.1)))) rfl ?_
        by_cases hc7 : 30 ≤ a2
        · rw [if_pos hc7] at h
          refine fj_bt rfl (decide_eq_true hc7) ?_
          refine fj_blk 5 (109, 181, [some (.inr (20, 0)), some (.inl a1), some (.inl a2), some (.inl a3), some (.inl a4), some (.inl a5), some (.inl a6)], [(.inl a4), (.inl a3), (.inl a2), (.inl a1), (.inr (20, 0))], (q4.2.1, (fj_u1 q4.2.2 25 0 a1.toNatClampNeg (((fj_u1 M.2 24 0 a1.toNatClampNeg ((M.2 24 0 a1.toNatClampNeg) + 1)) 25 0 a1.toNatClampNeg) - q4.1)))) rfl ?_
          cases hq8 : dm_112 a1 a2 a3 a4 (q4.2.1, (fj_u1 q4.2.2 25 0 a1.toNatClampNeg (((fj_u1 M.2 24 0 a1.toNatClampNeg ((M.2 24 0 a1.toNatClampNeg) + 1)) 25 0 a1.toNatClampNeg) - q4.1))) with
          | none => rw [hq8] at h; cases h
          | some q8 =>
            rw [hq8, Option.bind_some] at h
            refine fj_cl rfl (de_112 X a1 a2 a3 a4 (q4.2.1, (fj_u1 q4.2.2 25 0 a1.toNatClampNeg (((fj_u1 M.2 24 0 a1.toNatClampNeg ((M.2 24 0 a1.toNatClampNeg) + 1)) 25 0 a1.toNatClampNeg) - q4.1))) _ hq8) ?_
            refine fj_blk 1 (109, 185, [some (.inr (20, 0)), some (.inl a1), some (.inl a2), some (.inl a3), some (.inl a4), some (.inl a5), some (.inl a6)], [(.inl 0)], q8) rfl ?_
            cases h
            exact fj_ri rfl rfl
        · rw [if_neg hc7] at h
          refine fj_bf rfl (decide_eq_false hc7) ?_
          refine fj_blk 6 (109, 169, [some (.inr (20, 0)), some (.inl a1), some (.inl a2), some (.inl a3), some (.inl a4), some (.inl a5), some (.inl a6)], [(.inl a5), (.inl a4), (.inl a3), (.inl a2), (.inl a1), (.inr (20, 0))], (q4.2.1, (fj_u1 q4.2.2 25 0 a1.toNatClampNeg (((fj_u1 M.2 24 0 a1.toNatClampNeg ((M.2 24 0 a1.toNatClampNeg) + 1)) 25 0 a1.toNatClampNeg) - q4.1)))) rfl ?_
          cases hq9 : dm_111 a1 a2 a3 a4 a5 (q4.2.1, (fj_u1 q4.2.2 25 0 a1.toNatClampNeg (((fj_u1 M.2 24 0 a1.toNatClampNeg ((M.2 24 0 a1.toNatClampNeg) + 1)) 25 0 a1.toNatClampNeg) - q4.1))) with
          | none => rw [hq9] at h; cases h
          | some q9 =>
            rw [hq9, Option.bind_some] at h
            refine fj_cl rfl (de_111 X a1 a2 a3 a4 a5 (q4.2.1, (fj_u1 q4.2.2 25 0 a1.toNatClampNeg (((fj_u1 M.2 24 0 a1.toNatClampNeg ((M.2 24 0 a1.toNatClampNeg) + 1)) 25 0 a1.toNatClampNeg) - q4.1))) _ hq9) ?_
            refine fj_blk 2 (109, 185, [some (.inr (20, 0)), some (.inl a1), some (.inl a2), some (.inl a3), some (.inl a4), some (.inl a5), some (.inl a6)], [(.inl 0)], q9) rfl ?_
            cases h
            exact fj_ri rfl rfl
      · rw [if_neg hc6] at h
        refine fj_bf rfl (decide_eq_false hc6) ?_
        refine fj_blk 5 (109, 149, [some (.inr (20, 0)), some (.inl a1), some (.inl a2), some (.inl a3), some (.inl a4), some (.inl a5), some (.inl a6)], [(.inl a4), (.inl a3), (.inl a2), (.inl a1), (.inr (20, 0))], (q4.2.1, (fj_u1 q4.2.2 25 0 a1.toNatClampNeg (((fj_u1 M.2 24 0 a1.toNatClampNeg ((M.2 24 0 a1.toNatClampNeg) + 1)) 25 0 a1.toNatClampNeg) - q4.1)))) rfl ?_
        cases hq10 : dm_110 a1 a2 a3 a4 (q4.2.1, (fj_u1 q4.2.2 25 0 a1.toNatClampNeg (((fj_u1 M.2 24 0 a1.toNatClampNeg ((M.2 24 0 a1.toNatClampNeg) + 1)) 25 0 a1.toNatClampNeg) - q4.1))) with
        | none => rw [hq10] at h; cases h
        | some q10 =>
          rw [hq10, Option.bind_some] at h
          refine fj_cl rfl (de_110 X a1 a2 a3 a4 (q4.2.1, (fj_u1 q4.2.2 25 0 a1.toNatClampNeg (((fj_u1 M.2 24 0 a1.toNatClampNeg ((M.2 24 0 a1.toNatClampNeg) + 1)) 25 0 a1.toNatClampNeg) - q4.1))) _ hq10) ?_
          refine fj_blk 2 (109, 185, [some (.inr (20, 0)), some (.inl a1), some (.inl a2), some (.inl a3), some (.inl a4), some (.inl a5), some (.inl a6)], [(.inl 0)], q10) rfl ?_
          cases h
          exact fj_ri rfl rfl
def dm_109_87  (a1 : Int32) (a2 : Int32) (a3 : Int32) (a4 : Int32) (a5 : Int32) (a6 : Int32) (M : fj_M) : Option (Int32 × fj_M) := (if a2 = 41 then ((dm_82 a4 M).bind fun q2 => (if q2.1 = 0 then dm_109_114 a1 a2 a3 a4 a5 a6 q2.2 else ((dm_106 a1 6 a4 a4 q2.2).bind fun q4 => some (q4.1, q4.2)))) else dm_109_114 a1 a2 a3 a4 a5 a6 M)
set_option maxRecDepth 40000 in
theorem de_109_87 (X : fj_X) (a1 : Int32) (a2 : Int32) (a3 : Int32) (a4 : Int32) (a5 : Int32) (a6 : Int32) (M : fj_M) (r : (Int32 × fj_M)) (h : dm_109_87 a1 a2 a3 a4 a5 a6 M = some r) : fj_ev X (109, 87, [some (.inr (20, 0)), some (.inl a1), some (.inl a2), some (.inl a3), some (.inl a4), some (.inl a5), some (.inl a6)], [], M) (some r.1, r.2) := by
    unfold dm_109_87 at h
    refine fj_blk 2 (109, 90, [some (.inr (20, 0)), some (.inl a1), some (.inl a2), some (.inl a3), some (.inl a4), some (.inl a5), some (.inl a6)], [(.inl 41), (.inl a2)], M) rfl ?_
    by_cases hc1 : a2 = 41
    · rw [if_pos hc1] at h
      refine fj_bf rfl (fj_nf hc1) ?_
      refine fj_blk 2 (109, 96, [some (.inr (20, 0)), some (.inl a1), some (.inl a2), some (.inl a3), some (.inl a4), some (.inl a5), some (.inl a6)], [(.inl a4), (.inr (20, 0))], M) rfl ?_
      cases hq2 : dm_82 a4 M with
      | none => rw [hq2] at h; cases h
      | some q2 =>
        rw [hq2, Option.bind_some] at h
        refine fj_cl rfl (de_82 X a4 M _ hq2) ?_
        by_cases hc3 : q2.1 = 0
        · rw [if_pos hc3] at h
          refine fj_bt rfl (decide_eq_true hc3) ?_
          exact de_109_114 X a1 a2 a3 a4 a5 a6 q2.2 r h
        · rw [if_neg hc3] at h
          refine fj_bf rfl (decide_eq_false hc3) ?_
          refine fj_blk 5 (109, 110, [some (.inr (20, 0)), some (.inl a1), some (.inl a2), some (.inl a3), some (.inl a4), some (.inl a5), some (.inl a6)], [(.inl a4), (.inl a4), (.inl 6), (.inl a1), (.inr (20, 0))], q2.2) rfl ?_
          cases hq4 : dm_106 a1 6 a4 a4 q2.2 with
          | none => rw [hq4] at h; cases h
          | some q4 =>
            rw [hq4, Option.bind_some] at h
            refine fj_cl rfl (de_106 X a1 6 a4 a4 q2.2 _ hq4) ?_
            cases h
            exact fj_ri rfl rfl
    · rw [if_neg hc1] at h
      refine fj_bt rfl (fj_nt hc1) ?_
      exact de_109_114 X a1 a2 a3 a4 a5 a6 M r h
def dm_109_66  (a1 : Int32) (a2 : Int32) (a3 : Int32) (a4 : Int32) (a5 : Int32) (a6 : Int32) (M : fj_M) : Option (Int32 × fj_M) := (if a2 = 43 then (if a4 < 0 ∨ 12 ≤ a4.toNatClampNeg then none else (if (M.2 23 0 a4.toNatClampNeg) = 8 then some (8, M) else dm_109_87 a1 a2 a3 a4 a5 a6 M)) else dm_109_87 a1 a2 a3 a4 a5 a6 M)
set_option maxRecDepth 40000 in
theorem de_109_66 (X : fj_X) (a1 : Int32) (a2 : Int32) (a3 : Int32) (a4 : Int32) (a5 : Int32) (a6 : Int32) (M : fj_M) (r : (Int32 × fj_M)) (h : dm_109_66 a1 a2 a3 a4 a5 a6 M = some r) : fj_ev X (109, 66, [some (.inr (20, 0)), some (.inl a1), some (.inl a2), some (.inl a3), some (.inl a4), some (.inl a5), some (.inl a6)], [], M) (some r.1, r.2) := by
    unfold dm_109_66 at h
    refine fj_blk 2 (109, 69, [some (.inr (20, 0)), some (.inl a1), some (.inl a2), some (.inl a3), some (.inl a4), some (.inl a5), some (.inl a6)], [(.inl 43), (.inl a2)], M) rfl ?_
    by_cases hc1 : a2 = 43
    · rw [if_pos hc1] at h
      refine fj_bf rfl (fj_nf hc1) ?_
      refine fj_blk 3 (109, 78, [some (.inr (20, 0)), some (.inl a1), some (.inl a2), some (.inl a3), some (.inl a4), some (.inl a5), some (.inl a6)], [(.inl a4), (.inr (23, 0))], M) rfl ?_
      by_cases hc2 : a4 < 0 ∨ 12 ≤ a4.toNatClampNeg
      · rw [if_pos hc2] at h
        cases h
      rw [if_neg hc2] at h
      refine fj_ald rfl rfl hc2 ?_
      refine fj_blk 1 (109, 81, [some (.inr (20, 0)), some (.inl a1), some (.inl a2), some (.inl a3), some (.inl a4), some (.inl a5), some (.inl a6)], [(.inl 8), (.inl (M.2 23 0 a4.toNatClampNeg))], M) rfl ?_
      by_cases hc3 : (M.2 23 0 a4.toNatClampNeg) = 8
      · rw [if_pos hc3] at h
        refine fj_bf rfl (fj_nf hc3) ?_
        refine fj_blk 1 (109, 86, [some (.inr (20, 0)), some (.inl a1), some (.inl a2), some (.inl a3), some (.inl a4), some (.inl a5), some (.inl a6)], [(.inl 8)], M) rfl ?_
        cases h
        exact fj_ri rfl rfl
      · rw [if_neg hc3] at h
        refine fj_bt rfl (fj_nt hc3) ?_
        exact de_109_87 X a1 a2 a3 a4 a5 a6 M r h
    · rw [if_neg hc1] at h
      refine fj_bt rfl (fj_nt hc1) ?_
      exact de_109_87 X a1 a2 a3 a4 a5 a6 M r h
def dm_109_47  (a1 : Int32) (a2 : Int32) (a3 : Int32) (a4 : Int32) (a5 : Int32) (a6 : Int32) (M : fj_M) : Option (Int32 × fj_M) := (if a2 = 22 then (if a1 < 0 ∨ 12 ≤ a1.toNatClampNeg then none else (if (M.2 27 0 a1.toNatClampNeg) = 12 then some (3, M) else dm_109_66 a1 a2 a3 a4 a5 a6 M)) else dm_109_66 a1 a2 a3 a4 a5 a6 M)
set_option maxRecDepth 40000 in
theorem de_109_47 (X : fj_X) (a1 : Int32) (a2 : Int32) (a3 : Int32) (a4 : Int32) (a5 : Int32) (a6 : Int32) (M : fj_M) (r : (Int32 × fj_M)) (h : dm_109_47 a1 a2 a3 a4 a5 a6 M = some r) : fj_ev X (109, 47, [some (.inr (20, 0)), some (.inl a1), some (.inl a2), some (.inl a3), some (.inl a4), some (.inl a5), some (.inl a6)], [], M) (some r.1, r.2) := by
    unfold dm_109_47 at h
    refine fj_blk 2 (109, 50, [some (.inr (20, 0)), some (.inl a1), some (.inl a2), some (.inl a3), some (.inl a4), some (.inl a5), some (.inl a6)], [(.inl 22), (.inl a2)], M) rfl ?_
    by_cases hc1 : a2 = 22
    · rw [if_pos hc1] at h
      refine fj_bf rfl (fj_nf hc1) ?_
      refine fj_blk 3 (109, 58, [some (.inr (20, 0)), some (.inl a1), some (.inl a2), some (.inl a3), some (.inl a4), some (.inl a5), some (.inl a6)], [(.inl a1), (.inr (27, 0))], M) rfl ?_
      by_cases hc2 : a1 < 0 ∨ 12 ≤ a1.toNatClampNeg
      · rw [if_pos hc2] at h
        cases h
      rw [if_neg hc2] at h
      refine fj_ald rfl rfl hc2 ?_
      refine fj_blk 1 (109, 61, [some (.inr (20, 0)), some (.inl a1), some (.inl a2), some (.inl a3), some (.inl a4), some (.inl a5), some (.inl a6)], [(.inl 12), (.inl (M.2 27 0 a1.toNatClampNeg))], M) rfl ?_
      by_cases hc3 : (M.2 27 0 a1.toNatClampNeg) = 12
      · rw [if_pos hc3] at h
        refine fj_bf rfl (fj_nf hc3) ?_
        refine fj_blk 1 (109, 65, [some (.inr (20, 0)), some (.inl a1), some (.inl a2), some (.inl a3), some (.inl a4), some (.inl a5), some (.inl a6)], [(.inl 3)], M) rfl ?_
        cases h
        exact fj_ri rfl rfl
      · rw [if_neg hc3] at h
        refine fj_bt rfl (fj_nt hc3) ?_
        exact de_109_66 X a1 a2 a3 a4 a5 a6 M r h
    · rw [if_neg hc1] at h
      refine fj_bt rfl (fj_nt hc1) ?_
      exact de_109_66 X a1 a2 a3 a4 a5 a6 M r h
def dm_109_29  (a1 : Int32) (a2 : Int32) (a3 : Int32) (a4 : Int32) (a5 : Int32) (s0 : Int32) (M : fj_M) : Option (Int32 × fj_M) := (if s0 = 0 then dm_109_47 a1 a2 a3 a4 a5 s0 M else (if a1 < 0 ∨ 12 ≤ a1.toNatClampNeg then none else (if (M.2 25 0 a1.toNatClampNeg) = 24 then some (3, M) else dm_109_47 a1 a2 a3 a4 a5 s0 M)))
set_option maxRecDepth 40000 in
theorem de_109_29 (X : fj_X) (a1 : Int32) (a2 : Int32) (a3 : Int32) (a4 : Int32) (a5 : Int32) (s0 : Int32) (M : fj_M) (r : (Int32 × fj_M)) (h : dm_109_29 a1 a2 a3 a4 a5 s0 M = some r) : fj_ev X (109, 29, [some (.inr (20, 0)), some (.inl a1), some (.inl a2), some (.inl a3), some (.inl a4), some (.inl a5), none], [(.inl s0)], M) (some r.1, r.2) := by
    unfold dm_109_29 at h
    refine fj_blk 2 (109, 33, [some (.inr (20, 0)), some (.inl a1), some (.inl a2), some (.inl a3), some (.inl a4), some (.inl a5), some (.inl s0)], [(.inl s0)], M) rfl ?_
    by_cases hc1 : s0 = 0
    · rw [if_pos hc1] at h
      refine fj_bt rfl (decide_eq_true hc1) ?_
      exact de_109_47 X a1 a2 a3 a4 a5 s0 M r h
    · rw [if_neg hc1] at h
      refine fj_bf rfl (decide_eq_false hc1) ?_
      refine fj_blk 3 (109, 41, [some (.inr (20, 0)), some (.inl a1), some (.inl a2), some (.inl a3), some (.inl a4), some (.inl a5), some (.inl s0)], [(.inl a1), (.inr (25, 0))], M) rfl ?_
      by_cases hc2 : a1 < 0 ∨ 12 ≤ a1.toNatClampNeg
      · rw [if_pos hc2] at h
        cases h
      rw [if_neg hc2] at h
      refine fj_ald rfl rfl hc2 ?_
      refine fj_blk 1 (109, 44, [some (.inr (20, 0)), some (.inl a1), some (.inl a2), some (.inl a3), some (.inl a4), some (.inl a5), some (.inl s0)], [(.inl 24), (.inl (M.2 25 0 a1.toNatClampNeg))], M) rfl ?_
      by_cases hc3 : (M.2 25 0 a1.toNatClampNeg) = 24
      · rw [if_pos hc3] at h
        refine fj_bt rfl (decide_eq_true hc3) ?_
        refine fj_blk 1 (109, 65, [some (.inr (20, 0)), some (.inl a1), some (.inl a2), some (.inl a3), some (.inl a4), some (.inl a5), some (.inl s0)], [(.inl 3)], M) rfl ?_
        cases h
        exact fj_ri rfl rfl
      · rw [if_neg hc3] at h
        refine fj_bf rfl (decide_eq_false hc3) ?_
        exact de_109_47 X a1 a2 a3 a4 a5 s0 M r h
def dm_109_24  (a1 : Int32) (a2 : Int32) (a3 : Int32) (a4 : Int32) (a5 : Int32) (M : fj_M) : Option (Int32 × fj_M) := dm_109_29 a1 a2 a3 a4 a5 1 M
set_option maxRecDepth 40000 in
theorem de_109_24 (X : fj_X) (a1 : Int32) (a2 : Int32) (a3 : Int32) (a4 : Int32) (a5 : Int32) (M : fj_M) (r : (Int32 × fj_M)) (h : dm_109_24 a1 a2 a3 a4 a5 M = some r) : fj_ev X (109, 24, [some (.inr (20, 0)), some (.inl a1), some (.inl a2), some (.inl a3), some (.inl a4), some (.inl a5), none], [], M) (some r.1, r.2) := by
    unfold dm_109_24 at h
    refine fj_blk 2 (109, 29, [some (.inr (20, 0)), some (.inl a1), some (.inl a2), some (.inl a3), some (.inl a4), some (.inl a5), none], [(.inl 1)], M) rfl ?_
    exact de_109_29 X a1 a2 a3 a4 a5 1 M r h
/-- X6_workOther -/
def dm_109 (a1 : Int32) (a2 : Int32) (a3 : Int32) (a4 : Int32) (a5 : Int32) (M : fj_M) : Option (Int32 × fj_M) := (if a2 = 24 then dm_109_24 a1 a2 a3 a4 a5 M else (if a2 = 37 then dm_109_24 a1 a2 a3 a4 a5 M else (if a2 = 38 then dm_109_24 a1 a2 a3 a4 a5 M else (if a2 = 44 then dm_109_24 a1 a2 a3 a4 a5 M else dm_109_29 a1 a2 a3 a4 a5 0 M))))
set_option maxRecDepth 40000 in
theorem de_109 (X : fj_X) (a1 : Int32) (a2 : Int32) (a3 : Int32) (a4 : Int32) (a5 : Int32) (M : fj_M) (r : (Int32 × fj_M)) (h : dm_109 a1 a2 a3 a4 a5 M = some r) : fj_ev X (109, 0, [some (.inr (20, 0)), some (.inl a1), some (.inl a2), some (.inl a3), some (.inl a4), some (.inl a5), none], [], M) (some r.1, r.2) := by
    unfold dm_109 at h
    refine fj_blk 2 (109, 3, [some (.inr (20, 0)), some (.inl a1), some (.inl a2), some (.inl a3), some (.inl a4), some (.inl a5), none], [(.inl 24), (.inl a2)], M) rfl ?_
    by_cases hc1 : a2 = 24
    · rw [if_pos hc1] at h
      refine fj_bt rfl (decide_eq_true hc1) ?_
      exact de_109_24 X a1 a2 a3 a4 a5 M r h
    · rw [if_neg hc1] at h
      refine fj_bf rfl (decide_eq_false hc1) ?_
      refine fj_blk 2 (109, 9, [some (.inr (20, 0)), some (.inl a1), some (.inl a2), some (.inl a3), some (.inl a4), some (.inl a5), none], [(.inl 37), (.inl a2)], M) rfl ?_
      by_cases hc2 : a2 = 37
      · rw [if_pos hc2] at h
        refine fj_bt rfl (decide_eq_true hc2) ?_
        exact de_109_24 X a1 a2 a3 a4 a5 M r h
      · rw [if_neg hc2] at h
        refine fj_bf rfl (decide_eq_false hc2) ?_
        refine fj_blk 2 (109, 15, [some (.inr (20, 0)), some (.inl a1), some (.inl a2), some (.inl a3), some (.inl a4), some (.inl a5), none], [(.inl 38), (.inl a2)], M) rfl ?_
        by_cases hc3 : a2 = 38
        · rw [if_pos hc3] at h
          refine fj_bt rfl (decide_eq_true hc3) ?_
          exact de_109_24 X a1 a2 a3 a4 a5 M r h
        · rw [if_neg hc3] at h
          refine fj_bf rfl (decide_eq_false hc3) ?_
          refine fj_blk 2 (109, 21, [some (.inr (20, 0)), some (.inl a1), some (.inl a2), some (.inl a3), some (.inl a4), some (.inl a5), none], [(.inl 44), (.inl a2)], M) rfl ?_
          by_cases hc4 : a2 = 44
          · rw [if_pos hc4] at h
            refine fj_bf rfl (fj_nf hc4) ?_
            exact de_109_24 X a1 a2 a3 a4 a5 M r h
          · rw [if_neg hc4] at h
            refine fj_bt rfl (fj_nt hc4) ?_
            refine fj_blk 1 (109, 29, [some (.inr (20, 0)), some (.inl a1), some (.inl a2), some (.inl a3), some (.inl a4), some (.inl a5), none], [(.inl 0)], M) rfl ?_
            exact de_109_29 X a1 a2 a3 a4 a5 0 M r h
/-- X6_more -/
def dm_103 (a0 : Int32) (M : fj_M) : Option (Int32 × fj_M) := (if a0 = 1 then some (1, M) else (if a0 = 3 then some (1, M) else (if a0 = 5 then some (1, M) else some (0, M))))
set_option maxRecDepth 40000 in
theorem de_103 (X : fj_X) (a0 : Int32) (M : fj_M) (r : (Int32 × fj_M)) (h : dm_103 a0 M = some r) : fj_ev X (103, 0, [some (.inl a0)], [], M) (some r.1, r.2) := by
    unfold dm_103 at h
    refine fj_blk 2 (103, 2, [some (.inl a0)], [(.inl 1), (.inl a0)], M) rfl ?_
    by_cases hc1 : a0 = 1
    · rw [if_pos hc1] at h
      refine fj_bt rfl (decide_eq_true hc1) ?_
      refine fj_blk 2 (103, 20, [some (.inl a0)], [(.inl 1)], M) rfl ?_
      cases h
      exact fj_ri rfl rfl
    · rw [if_neg hc1] at h
      refine fj_bf rfl (decide_eq_false hc1) ?_
      refine fj_blk 2 (103, 7, [some (.inl a0)], [(.inl 3), (.inl a0)], M) rfl ?_
      by_cases hc2 : a0 = 3
      · rw [if_pos hc2] at h
        refine fj_bt rfl (decide_eq_true hc2) ?_
        refine fj_blk 2 (103, 20, [some (.inl a0)], [(.inl 1)], M) rfl ?_
        cases h
        exact fj_ri rfl rfl
      · rw [if_neg hc2] at h
        refine fj_bf rfl (decide_eq_false hc2) ?_
        refine fj_blk 2 (103, 12, [some (.inl a0)], [(.inl 5), (.inl a0)], M) rfl ?_
        by_cases hc3 : a0 = 5
        · rw [if_pos hc3] at h
          refine fj_bf rfl (fj_nf hc3) ?_
          refine fj_blk 2 (103, 20, [some (.inl a0)], [(.inl 1)], M) rfl ?_
          cases h
          exact fj_ri rfl rfl
        · rw [if_neg hc3] at h
          refine fj_bt rfl (fj_nt hc3) ?_
          refine fj_blk 1 (103, 20, [some (.inl a0)], [(.inl 0)], M) rfl ?_
          cases h
          exact fj_ri rfl rfl
/-- X6_reckoned -/
def dm_105 (a0 : Int32) (a1 : Int32) (a2 : Int32) (M : fj_M) : Option (Int32 × fj_M) := (if a0 = 6 then some (a2 + a1, M) else (if a0 = 7 then some (a2 - a1, M) else (if a0 = 8 then some (a2 * a1, M) else (if a0 = 9 then (if a1 = (-1) then some (-a2, M) else (if a1 = 0 then none else some (a2 / a1, M))) else (if a0 = 10 then (if a1 = (-1) then some (0, M) else (if a1 = 0 then none else some (a2 - a2 / a1 * a1, M))) else (if a0 = 11 then (if a2 = a1 then some (1, M) else some (0, M)) else (if a0 = 12 then some (a2 &&& a1, M) else (if a0 = 13 then some (a2 ||| a1, M) else (if a0 = 14 then some (a2 ^^^ a1, M) else (if a0 = 15 then some (a2 <<< ((a1 &&& 31) &&& 31), M) else (if a0 = 16 then some (a2 >>> ((a1 &&& 31) &&& 31), M) else (if a0 = 17 then (if a1 ≤ a2 then some (0, M) else some (1, M)) else (if a2 = a1 then some (1, M) else some (0, M))))))))))))))
set_option maxRecDepth 40000 in
theorem de_105 (X : fj_X) (a0 : Int32) (a1 : Int32) (a2 : Int32) (M : fj_M) (r : (Int32 × fj_M)) (h : dm_105 a0 a1 a2 M = some r) : fj_ev X (105, 0, [some (.inl a0), some (.inl a1), some (.inl a2)], [], M) (some r.1, r.2) := by
    unfold dm_105 at h
    refine fj_blk 1 (105, 1, [some (.inl a0), some (.inl a1), some (.inl a2)], [(.inl a0)], M) rfl ?_
    by_cases hc1 : a0 = 6
    · rw [if_pos hc1] at h
      refine fj_swg (t := 64) rfl (by rw [hc1]; rfl) ?_
      refine fj_blk 3 (105, 67, [some (.inl a0), some (.inl a1), some (.inl a2)], [(.inl (a2 + a1))], M) rfl ?_
      cases h
      exact fj_ri rfl rfl
    · rw [if_neg hc1] at h
      by_cases hc2 : a0 = 7
      · rw [if_pos hc2] at h
        refine fj_swg (t := 68) rfl (by rw [hc2]; rfl) ?_
        refine fj_blk 3 (105, 71, [some (.inl a0), some (.inl a1), some (.inl a2)], [(.inl (a2 - a1))], M) rfl ?_
        cases h
        exact fj_ri rfl rfl
      · rw [if_neg hc2] at h
        by_cases hc3 : a0 = 8
        · rw [if_pos hc3] at h
          refine fj_swg (t := 72) rfl (by rw [hc3]; rfl) ?_
          refine fj_blk 3 (105, 75, [some (.inl a0), some (.inl a1), some (.inl a2)], [(.inl (a2 * a1))], M) rfl ?_
          cases h
          exact fj_ri rfl rfl
        · rw [if_neg hc3] at h
          by_cases hc4 : a0 = 9
          · rw [if_pos hc4] at h
            refine fj_swg (t := 76) rfl (by rw [hc4]; rfl) ?_
            refine fj_blk 2 (105, 78, [some (.inl a0), some (.inl a1), some (.inl a2)], [(.inl (-1)), (.inl a1)], M) rfl ?_
            by_cases hc5 : a1 = (-1)
            · rw [if_pos hc5] at h
              refine fj_bf rfl (fj_nf hc5) ?_
              refine fj_blk 3 (105, 89, [some (.inl a0), some (.inl a1), some (.inl a2)], [(.inl (-a2))], M) rfl ?_
              cases h
              exact fj_ri rfl rfl
            · rw [if_neg hc5] at h
              refine fj_bt rfl (fj_nt hc5) ?_
              refine fj_blk 2 (105, 88, [some (.inl a0), some (.inl a1), some (.inl a2)], [(.inl a1), (.inl a2)], M) rfl ?_
              by_cases hc6 : a1 = 0
              · rw [if_pos hc6] at h
                cases h
              rw [if_neg hc6] at h
              refine fj_idv rfl hc6 ?_
              cases h
              exact fj_ri rfl rfl
          · rw [if_neg hc4] at h
            by_cases hc7 : a0 = 10
            · rw [if_pos hc7] at h
              refine fj_swg (t := 90) rfl (by rw [hc7]; rfl) ?_
              refine fj_blk 2 (105, 92, [some (.inl a0), some (.inl a1), some (.inl a2)], [(.inl (-1)), (.inl a1)], M) rfl ?_
              by_cases hc8 : a1 = (-1)
              · rw [if_pos hc8] at h
                refine fj_bf rfl (fj_nf hc8) ?_
                refine fj_blk 2 (105, 102, [some (.inl a0), some (.inl a1), some (.inl a2)], [(.inl 0)], M) rfl ?_
                cases h
                exact fj_ri rfl rfl
              · rw [if_neg hc8] at h
                refine fj_bt rfl (fj_nt hc8) ?_
                refine fj_blk 2 (105, 101, [some (.inl a0), some (.inl a1), some (.inl a2)], [(.inl a1), (.inl a2)], M) rfl ?_
                by_cases hc9 : a1 = 0
                · rw [if_pos hc9] at h
                  cases h
                rw [if_neg hc9] at h
                refine fj_irm rfl hc9 ?_
                cases h
                exact fj_ri rfl rfl
            · rw [if_neg hc7] at h
              by_cases hc10 : a0 = 11
              · rw [if_pos hc10] at h
                refine fj_swg (t := 140) rfl (by rw [hc10]; rfl) ?_
                refine fj_blk 2 (105, 142, [some (.inl a0), some (.inl a1), some (.inl a2)], [(.inl a1), (.inl a2)], M) rfl ?_
                by_cases hc11 : a2 = a1
                · rw [if_pos hc11] at h
                  refine fj_bf rfl (fj_nf hc11) ?_
                  refine fj_blk 2 (105, 150, [some (.inl a0), some (.inl a1), some (.inl a2)], [(.inl 1)], M) rfl ?_
                  cases h
                  exact fj_ri rfl rfl
                · rw [if_neg hc11] at h
                  refine fj_bt rfl (fj_nt hc11) ?_
                  refine fj_blk 1 (105, 150, [some (.inl a0), some (.inl a1), some (.inl a2)], [(.inl 0)], M) rfl ?_
                  cases h
                  exact fj_ri rfl rfl
              · rw [if_neg hc10] at h
                by_cases hc12 : a0 = 12
                · rw [if_pos hc12] at h
                  refine fj_swg (t := 103) rfl (by rw [hc12]; rfl) ?_
                  refine fj_blk 3 (105, 106, [some (.inl a0), some (.inl a1), some (.inl a2)], [(.inl (a2 &&& a1))], M) rfl ?_
                  cases h
                  exact fj_ri rfl rfl
                · rw [if_neg hc12] at h
                  by_cases hc13 : a0 = 13
                  · rw [if_pos hc13] at h
                    refine fj_swg (t := 107) rfl (by rw [hc13]; rfl) ?_
                    refine fj_blk 3 (105, 110, [some (.inl a0), some (.inl a1), some (.inl a2)], [(.inl (a2 ||| a1))], M) rfl ?_
                    cases h
                    exact fj_ri rfl rfl
                  · rw [if_neg hc13] at h
                    by_cases hc14 : a0 = 14
                    · rw [if_pos hc14] at h
                      refine fj_swg (t := 111) rfl (by rw [hc14]; rfl) ?_
                      refine fj_blk 3 (105, 114, [some (.inl a0), some (.inl a1), some (.inl a2)], [(.inl (a2 ^^^ a1))], M) rfl ?_
                      cases h
                      exact fj_ri rfl rfl
                    · rw [if_neg hc14] at h
                      by_cases hc15 : a0 = 15
                      · rw [if_pos hc15] at h
                        refine fj_swg (t := 115) rfl (by rw [hc15]; rfl) ?_
                        refine fj_blk 5 (105, 121, [some (.inl a0), some (.inl a1), some (.inl a2)], [(.inl (a2 <<< ((a1 &&& 31) &&& 31)))], M) rfl ?_
                        cases h
                        exact fj_ri rfl rfl
                      · rw [if_neg hc15] at h
                        by_cases hc16 : a0 = 16
                        · rw [if_pos hc16] at h
                          refine fj_swg (t := 122) rfl (by rw [hc16]; rfl) ?_
                          refine fj_blk 5 (105, 128, [some (.inl a0), some (.inl a1), some (.inl a2)], [(.inl (a2 >>> ((a1 &&& 31) &&& 31)))], M) rfl ?_
                          cases h
                          exact fj_ri rfl rfl
                        · rw [if_neg hc16] at h
                          by_cases hc17 : a0 = 17
                          · rw [if_pos hc17] at h
                            refine fj_swg (t := 129) rfl (by rw [hc17]; rfl) ?_
                            refine fj_blk 2 (105, 131, [some (.inl a0), some (.inl a1), some (.inl a2)], [(.inl a1), (.inl a2)], M) rfl ?_
                            by_cases hc18 : a1 ≤ a2
                            · rw [if_pos hc18] at h
                              refine fj_bt rfl (decide_eq_true hc18) ?_
                              refine fj_blk 1 (105, 139, [some (.inl a0), some (.inl a1), some (.inl a2)], [(.inl 0)], M) rfl ?_
                              cases h
                              exact fj_ri rfl rfl
                            · rw [if_neg hc18] at h
                              refine fj_bf rfl (decide_eq_false hc18) ?_
                              refine fj_blk 2 (105, 139, [some (.inl a0), some (.inl a1), some (.inl a2)], [(.inl 1)], M) rfl ?_
                              cases h
                              exact fj_ri rfl rfl
                          · rw [if_neg hc17] at h
                            refine fj_swg (t := 140) rfl (by simp only [fj_sw, hc1, hc2, hc3, hc4, hc7, hc10, hc12, hc13, hc14, hc15, hc16, hc17, if_false]) ?_
                            refine fj_blk 2 (105, 142, [some (.inl a0), some (.inl a1), some (.inl a2)], [(.inl a1), (.inl a2)], M) rfl ?_
                            by_cases hc19 : a2 = a1
                            · rw [if_pos hc19] at h
                              refine fj_bf rfl (fj_nf hc19) ?_
                              refine fj_blk 2 (105, 150, [some (.inl a0), some (.inl a1), some (.inl a2)], [(.inl 1)], M) rfl ?_
                              cases h
                              exact fj_ri rfl rfl
                            · rw [if_neg hc19] at h
                              refine fj_bt rfl (fj_nt hc19) ?_
                              refine fj_blk 1 (105, 150, [some (.inl a0), some (.inl a1), some (.inl a2)], [(.inl 0)], M) rfl ?_
                              cases h
                              exact fj_ri rfl rfl
def dm_104_216  (a1 : Int32) (a2 : Int32) (a3 : Int32) (a4 : Int32) (a5 : Int32) (s0 : Int32) (s1 : Int32) (s2 : Int32) (M : fj_M) : Option (Int32 × fj_M) := ((dm_101 s2 s1 s0 M).bind fun q1 => some (0, q1))
set_option maxRecDepth 40000 in
theorem de_104_216 (X : fj_X) (a1 : Int32) (a2 : Int32) (a3 : Int32) (a4 : Int32) (a5 : Int32) (s0 : Int32) (s1 : Int32) (s2 : Int32) (M : fj_M) (r : (Int32 × fj_M)) (h : dm_104_216 a1 a2 a3 a4 a5 s0 s1 s2 M = some r) : fj_ev X (104, 216, [some (.inr (20, 0)), some (.inl a1), some (.inl a2), some (.inl a3), some (.inl a4), some (.inl a5)], [(.inl s0), (.inl s1), (.inl s2), (.inr (20, 0))], M) (some r.1, r.2) := by
    unfold dm_104_216 at h
    cases hq1 : dm_101 s2 s1 s0 M with
    | none => rw [hq1] at h; cases h
    | some q1 =>
      rw [hq1, Option.bind_some] at h
      refine fj_cl rfl (de_101 X s2 s1 s0 M _ hq1) ?_
      refine fj_blk 2 (104, 237, [some (.inr (20, 0)), some (.inl a1), some (.inl a2), some (.inl a3), some (.inl a4), some (.inl a5)], [(.inl 0)], q1) rfl ?_
      cases h
      exact fj_ri rfl rfl
/-- X6_workPlain -/
def dm_104 (a1 : Int32) (a2 : Int32) (a3 : Int32) (a4 : Int32) (a5 : Int32) (M : fj_M) : Option (Int32 × fj_M) := (if a1 < 0 ∨ 12 ≤ a1.toNatClampNeg then none else ((dm_103 a2 M).bind fun q2 => (if ((M.2 25 0 a1.toNatClampNeg) + q2.1) ≤ 24 then (if a1 < 0 ∨ 12 ≤ a1.toNatClampNeg then none else (if a1 < 0 ∨ 12 ≤ a1.toNatClampNeg then none else (if a2 = 0 then some (0, (q2.2.1, (fj_u1 q2.2.2 24 0 a1.toNatClampNeg ((q2.2.2 24 0 a1.toNatClampNeg) + 1)))) else (if a2 = 1 then ((dm_101 a1 0 a3 (q2.2.1, (fj_u1 q2.2.2 24 0 a1.toNatClampNeg ((q2.2.2 24 0 a1.toNatClampNeg) + 1)))).bind fun q8 => some (0, q8)) else (if a2 = 2 then (if a1 < 0 ∨ 12 ≤ a1.toNatClampNeg then none else (if a1 < 0 ∨ 12 ≤ a1.toNatClampNeg then none else some (0, (q2.2.1, (fj_u1 (fj_u1 q2.2.2 24 0 a1.toNatClampNeg ((q2.2.2 24 0 a1.toNatClampNeg) + 1)) 25 0 a1.toNatClampNeg (((fj_u1 q2.2.2 24 0 a1.toNatClampNeg ((q2.2.2 24 0 a1.toNatClampNeg) + 1)) 25 0 a1.toNatClampNeg) - 1)))))) else (if a2 = 3 then ((dm_101 a1 0 a4 (q2.2.1, (fj_u1 q2.2.2 24 0 a1.toNatClampNeg ((q2.2.2 24 0 a1.toNatClampNeg) + 1)))).bind fun q13 => some (0, q13)) else (if a2 = 4 then ((dm_101 a1 2 a4 (q2.2.1, (fj_u1 q2.2.2 24 0 a1.toNatClampNeg ((q2.2.2 24 0 a1.toNatClampNeg) + 1)))).bind fun q15 => ((dm_101 a1 0 a5 q15).bind fun q16 => some (0, q16))) else (if a2 = 5 then ((dm_101 a1 0 a5 (q2.2.1, (fj_u1 q2.2.2 24 0 a1.toNatClampNeg ((q2.2.2 24 0 a1.toNatClampNeg) + 1)))).bind fun q18 => some (0, q18)) else (if a2 = 6 then ((dm_105 a2 a4 a5 (q2.2.1, (fj_u1 q2.2.2 24 0 a1.toNatClampNeg ((q2.2.2 24 0 a1.toNatClampNeg) + 1)))).bind fun q20 => ((dm_101 a1 2 q20.1 q20.2).bind fun q21 => some (0, q21))) else (if a2 = 7 then ((dm_105 a2 a4 a5 (q2.2.1, (fj_u1 q2.2.2 24 0 a1.toNatClampNeg ((q2.2.2 24 0 a1.toNatClampNeg) + 1)))).bind fun q23 => ((dm_101 a1 2 q23.1 q23.2).bind fun q24 => some (0, q24))) else (if a2 = 8 then ((dm_105 a2 a4 a5 (q2.2.1, (fj_u1 q2.2.2 24 0 a1.toNatClampNeg ((q2.2.2 24 0 a1.toNatClampNeg) + 1)))).bind fun q26 => ((dm_101 a1 2 q26.1 q26.2).bind fun q27 => some (0, q27))) else (if a2 = 9 then ((dm_105 a2 a4 a5 (q2.2.1, (fj_u1 q2.2.2 24 0 a1.toNatClampNeg ((q2.2.2 24 0 a1.toNatClampNeg) + 1)))).bind fun q29 => ((dm_101 a1 2 q29.1 q29.2).bind fun q30 => some (0, q30))) else (if a2 = 10 then ((dm_105 a2 a4 a5 (q2.2.1, (fj_u1 q2.2.2 24 0 a1.toNatClampNeg ((q2.2.2 24 0 a1.toNatClampNeg) + 1)))).bind fun q32 => ((dm_101 a1 2 q32.1 q32.2).bind fun q33 => some (0, q33))) else (if a2 = 11 then ((dm_101 a1 1 (-a4) (q2.2.1, (fj_u1 q2.2.2 24 0 a1.toNatClampNeg ((q2.2.2 24 0 a1.toNatClampNeg) + 1)))).bind fun q35 => some (0, q35)) else (if a2 = 12 then ((dm_105 a2 a4 a5 (q2.2.1, (fj_u1 q2.2.2 24 0 a1.toNatClampNeg ((q2.2.2 24 0 a1.toNatClampNeg) + 1)))).bind fun q37 => ((dm_101 a1 2 q37.1 q37.2).bind fun q38 => some (0, q38))) else (if a2 = 13 then ((dm_105 a2 a4 a5 (q2.2.1, (fj_u1 q2.2.2 24 0 a1.toNatClampNeg ((q2.2.2 24 0 a1.toNatClampNeg) + 1)))).bind fun q40 => ((dm_101 a1 2 q40.1 q40.2).bind fun q41 => some (0, q41))) else (if a2 = 14 then ((dm_105 a2 a4 a5 (q2.2.1, (fj_u1 q2.2.2 24 0 a1.toNatClampNeg ((q2.2.2 24 0 a1.toNatClampNeg) + 1)))).bind fun q43 => ((dm_101 a1 2 q43.1 q43.2).bind fun q44 => some (0, q44))) else (if a2 = 15 then ((dm_105 a2 a4 a5 (q2.2.1, (fj_u1 q2.2.2 24 0 a1.toNatClampNeg ((q2.2.2 24 0 a1.toNatClampNeg) + 1)))).bind fun q46 => ((dm_101 a1 2 q46.1 q46.2).bind fun q47 => some (0, q47))) else (if a2 = 16 then ((dm_105 a2 a4 a5 (q2.2.1, (fj_u1 q2.2.2 24 0 a1.toNatClampNeg ((q2.2.2 24 0 a1.toNatClampNeg) + 1)))).bind fun q49 => ((dm_101 a1 2 q49.1 q49.2).bind fun q50 => some (0, q50))) else (if a2 = 17 then ((dm_105 a2 a4 a5 (q2.2.1, (fj_u1 q2.2.2 24 0 a1.toNatClampNeg ((q2.2.2 24 0 a1.toNatClampNeg) + 1)))).bind fun q52 => ((dm_101 a1 2 q52.1 q52.2).bind fun q53 => some (0, q53))) else (if a2 = 18 then ((dm_105 a2 a4 a5 (q2.2.1, (fj_u1 q2.2.2 24 0 a1.toNatClampNeg ((q2.2.2 24 0 a1.toNatClampNeg) + 1)))).bind fun q55 => ((dm_101 a1 2 q55.1 q55.2).bind fun q56 => some (0, q56))) else (if a2 = 19 then (if a4 = 0 then dm_104_216 a1 a2 a3 a4 a5 1 1 a1 (q2.2.1, (fj_u1 q2.2.2 24 0 a1.toNatClampNeg ((q2.2.2 24 0 a1.toNatClampNeg) + 1))) else dm_104_216 a1 a2 a3 a4 a5 0 1 a1 (q2.2.1, (fj_u1 q2.2.2 24 0 a1.toNatClampNeg ((q2.2.2 24 0 a1.toNatClampNeg) + 1)))) else ((dm_105 a2 a4 a5 (q2.2.1, (fj_u1 q2.2.2 24 0 a1.toNatClampNeg ((q2.2.2 24 0 a1.toNatClampNeg) + 1)))).bind fun q59 => ((dm_101 a1 2 q59.1 q59.2).bind fun q60 => some (0, q60))))))))))))))))))))))))) else some (3, q2.2))))
set_option maxRecDepth 40000 in
theorem de_104 (X : fj_X) (a1 : Int32) (a2 : Int32) (a3 : Int32) (a4 : Int32) (a5 : Int32) (M : fj_M) (r : (Int32 × fj_M)) (h : dm_104 a1 a2 a3 a4 a5 M = some r) : fj_ev X (104, 0, [some (.inr (20, 0)), some (.inl a1), some (.inl a2), some (.inl a3), some (.inl a4), some (.inl a5)], [], M) (some r.1, r.2) := by
    unfold dm_104 at h
    refine fj_blk 3 (104, 5, [some (.inr (20, 0)), some (.inl a1), some (.inl a2), some (.inl a3), some (.inl a4), some (.inl a5)], [(.inl a1), (.inr (25, 0))], M) rfl ?_
    by_cases hc1 : a1 < 0 ∨ 12 ≤ a1.toNatClampNeg
    · rw [if_pos hc1] at h
      cases h
    rw [if_neg hc1] at h
    refine fj_ald rfl rfl hc1 ?_
    refine fj_blk 1 (104, 7, [some (.inr (20, 0)), some (.inl a1), some (.inl a2), some (.inl a3), some (.inl a4), some (.inl a5)], [(.inl a2), (.inl (M.2 25 0 a1.toNatClampNeg))], M) rfl ?_
    cases hq2 : dm_103 a2 M with
    | none => rw [hq2] at h; cases h
    | some q2 =>
      rw [hq2, Option.bind_some] at h
      refine fj_cl rfl (de_103 X a2 M _ hq2) ?_
      refine fj_blk 2 (104, 13, [some (.inr (20, 0)), some (.inl a1), some (.inl a2), some (.inl a3), some (.inl a4), some (.inl a5)], [(.inl 24), (.inl ((M.2 25 0 a1.toNatClampNeg) + q2.1))], q2.2) rfl ?_
      by_cases hc3 : ((M.2 25 0 a1.toNatClampNeg) + q2.1) ≤ 24
      · rw [if_pos hc3] at h
        refine fj_bt rfl (decide_eq_true hc3) ?_
        refine fj_blk 4 (104, 24, [some (.inr (20, 0)), some (.inl a1), some (.inl a2), some (.inl a3), some (.inl a4), some (.inl a5)], [(.inl a1), (.inr (24, 0)), (.inl a1), (.inr (24, 0))], q2.2) rfl ?_
        by_cases hc4 : a1 < 0 ∨ 12 ≤ a1.toNatClampNeg
        · rw [if_pos hc4] at h
          cases h
        rw [if_neg hc4] at h
        refine fj_ald rfl rfl hc4 ?_
        refine fj_blk 2 (104, 27, [some (.inr (20, 0)), some (.inl a1), some (.inl a2), some (.inl a3), some (.inl a4), some (.inl a5)], [(.inl ((q2.2.2 24 0 a1.toNatClampNeg) + 1)), (.inl a1), (.inr (24, 0))], q2.2) rfl ?_
        by_cases hc5 : a1 < 0 ∨ 12 ≤ a1.toNatClampNeg
        · rw [if_pos hc5] at h
          cases h
        rw [if_neg hc5] at h
        refine fj_ast rfl rfl hc5 ?_
        refine fj_blk 1 (104, 29, [some (.inr (20, 0)), some (.inl a1), some (.inl a2), some (.inl a3), some (.inl a4), some (.inl a5)], [(.inl a2)], (q2.2.1, (fj_u1 q2.2.2 24 0 a1.toNatClampNeg ((q2.2.2 24 0 a1.toNatClampNeg) + 1)))) rfl ?_
        by_cases hc6 : a2 = 0
        · rw [if_pos hc6] at h
          refine fj_swg (t := 124) rfl (by rw [hc6]; rfl) ?_
          refine fj_blk 2 (104, 237, [some (.inr (20, 0)), some (.inl a1), some (.inl a2), some (.inl a3), some (.inl a4), some (.inl a5)], [(.inl 0)], (q2.2.1, (fj_u1 q2.2.2 24 0 a1.toNatClampNeg ((q2.2.2 24 0 a1.toNatClampNeg) + 1)))) rfl ?_
          cases h
          exact fj_ri rfl rfl
        · rw [if_neg hc6] at h
          by_cases hc7 : a2 = 1
          · rw [if_pos hc7] at h
            refine fj_swg (t := 127) rfl (by rw [hc7]; rfl) ?_
            refine fj_blk 4 (104, 131, [some (.inr (20, 0)), some (.inl a1), some (.inl a2), some (.inl a3), some (.inl a4), some (.inl a5)], [(.inl a3), (.inl 0), (.inl a1), (.inr (20, 0))], (q2.2.1, (fj_u1 q2.2.2 24 0 a1.toNatClampNeg ((q2.2.2 24 0 a1.toNatClampNeg) + 1)))) rfl ?_
            cases hq8 : dm_101 a1 0 a3 (q2.2.1, (fj_u1 q2.2.2 24 0 a1.toNatClampNeg ((q2.2.2 24 0 a1.toNatClampNeg) + 1))) with
            | none => rw [hq8] at h; cases h
            | some q8 =>
              rw [hq8, Option.bind_some] at h
              refine fj_cl rfl (de_101 X a1 0 a3 (q2.2.1, (fj_u1 q2.2.2 24 0 a1.toNatClampNeg ((q2.2.2 24 0 a1.toNatClampNeg) + 1))) _ hq8) ?_
              refine fj_blk 2 (104, 237, [some (.inr (20, 0)), some (.inl a1), some (.inl a2), some (.inl a3), some (.inl a4), some (.inl a5)], [(.inl 0)], q8) rfl ?_
              cases h
              exact fj_ri rfl rfl
          · rw [if_neg hc7] at h
            by_cases hc9 : a2 = 2
            · rw [if_pos hc9] at h
              refine fj_swg (t := 137) rfl (by rw [hc9]; rfl) ?_
              refine fj_blk 4 (104, 143, [some (.inr (20, 0)), some (.inl a1), some (.inl a2), some (.inl a3), some (.inl a4), some (.inl a5)], [(.inl a1), (.inr (25, 0)), (.inl a1), (.inr (25, 0))], (q2.2.1, (fj_u1 q2.2.2 24 0 a1.toNatClampNeg ((q2.2.2 24 0 a1.toNatClampNeg) + 1)))) rfl ?_
              by_cases hc10 : a1 < 0 ∨ 12 ≤ a1.toNatClampNeg
              · rw [if_pos hc10] at h
                cases h
              rw [if_neg hc10] at h
              refine fj_ald rfl rfl hc10 ?_
              refine fj_blk 2 (104, 146, [some (.inr (20, 0)), some (.inl a1), some (.inl a2), some (.inl a3), some (.inl a4), some (.inl a5)], [(.inl (((fj_u1 q2.2.2 24 0 a1.toNatClampNeg ((q2.2.2 24 0 a1.toNatClampNeg) + 1)) 25 0 a1.toNatClampNeg) - 1)), (.inl a1), (.inr (25, 0))], (q2.2.1, (fj_u1 q2.2.2 24 0 a1.toNatClampNeg ((q2.2.2 24 0 a1.toNatClampNeg) + 1)))) rfl ?_
              by_cases hc11 : a1 < 0 ∨ 12 ≤ a1.toNatClampNeg
              · rw [if_pos hc11] at h
                cases h
              rw [if_neg hc11] at h
              refine fj_ast rfl rfl hc11 ?_
              refine fj_blk 2 (104, 237, [some (.inr (20, 0)), some (.inl a1), some (.inl a2), some (.inl a3), some (.inl a4), some (.inl a5)], [(.inl 0)], (q2.2.1, (fj_u1 (fj_u1 q2.2.2 24 0 a1.toNatClampNeg ((q2.2.2 24 0 a1.toNatClampNeg) + 1)) 25 0 a1.toNatClampNeg (((fj_u1 q2.2.2 24 0 a1.toNatClampNeg ((q2.2.2 24 0 a1.toNatClampNeg) + 1)) 25 0 a1.toNatClampNeg) - 1)))) rfl ?_
              cases h
              exact fj_ri rfl rfl
            · rw [if_neg hc9] at h
              by_cases hc12 : a2 = 3
              · rw [if_pos hc12] at h
                refine fj_swg (t := 150) rfl (by rw [hc12]; rfl) ?_
                refine fj_blk 4 (104, 155, [some (.inr (20, 0)), some (.inl a1), some (.inl a2), some (.inl a3), some (.inl a4), some (.inl a5)], [(.inl a4), (.inl 0), (.inl a1), (.inr (20, 0))], (q2.2.1, (fj_u1 q2.2.2 24 0 a1.toNatClampNeg ((q2.2.2 24 0 a1.toNatClampNeg) + 1)))) rfl ?_
                cases hq13 : dm_101 a1 0 a4 (q2.2.1, (fj_u1 q2.2.2 24 0 a1.toNatClampNeg ((q2.2.2 24 0 a1.toNatClampNeg) + 1))) with
                | none => rw [hq13] at h; cases h
                | some q13 =>
                  rw [hq13, Option.bind_some] at h
                  refine fj_cl rfl (de_101 X a1 0 a4 (q2.2.1, (fj_u1 q2.2.2 24 0 a1.toNatClampNeg ((q2.2.2 24 0 a1.toNatClampNeg) + 1))) _ hq13) ?_
                  refine fj_blk 2 (104, 237, [some (.inr (20, 0)), some (.inl a1), some (.inl a2), some (.inl a3), some (.inl a4), some (.inl a5)], [(.inl 0)], q13) rfl ?_
                  cases h
                  exact fj_ri rfl rfl
              · rw [if_neg hc12] at h
                by_cases hc14 : a2 = 4
                · rw [if_pos hc14] at h
                  refine fj_swg (t := 161) rfl (by rw [hc14]; rfl) ?_
                  refine fj_blk 4 (104, 166, [some (.inr (20, 0)), some (.inl a1), some (.inl a2), some (.inl a3), some (.inl a4), some (.inl a5)], [(.inl a4), (.inl 2), (.inl a1), (.inr (20, 0))], (q2.2.1, (fj_u1 q2.2.2 24 0 a1.toNatClampNeg ((q2.2.2 24 0 a1.toNatClampNeg) + 1)))) rfl ?_
                  cases hq15 : dm_101 a1 2 a4 (q2.2.1, (fj_u1 q2.2.2 24 0 a1.toNatClampNeg ((q2.2.2 24 0 a1.toNatClampNeg) + 1))) with
                  | none => rw [hq15] at h; cases h
                  | some q15 =>
                    rw [hq15, Option.bind_some] at h
                    refine fj_cl rfl (de_101 X a1 2 a4 (q2.2.1, (fj_u1 q2.2.2 24 0 a1.toNatClampNeg ((q2.2.2 24 0 a1.toNatClampNeg) + 1))) _ hq15) ?_
                    refine fj_blk 4 (104, 174, [some (.inr (20, 0)), some (.inl a1), some (.inl a2), some (.inl a3), some (.inl a4), some (.inl a5)], [(.inl a5), (.inl 0), (.inl a1), (.inr (20, 0))], q15) rfl ?_
                    cases hq16 : dm_101 a1 0 a5 q15 with
                    | none => rw [hq16] at h; cases h
                    | some q16 =>
                      rw [hq16, Option.bind_some] at h
                      refine fj_cl rfl (de_101 X a1 0 a5 q15 _ hq16) ?_
                      refine fj_blk 2 (104, 237, [some (.inr (20, 0)), some (.inl a1), some (.inl a2), some (.inl a3), some (.inl a4), some (.inl a5)], [(.inl 0)], q16) rfl ?_
                      cases h
                      exact fj_ri rfl rfl
                · rw [if_neg hc14] at h
                  by_cases hc17 : a2 = 5
                  · rw [if_pos hc17] at h
                    refine fj_swg (t := 180) rfl (by rw [hc17]; rfl) ?_
                    refine fj_blk 4 (104, 185, [some (.inr (20, 0)), some (.inl a1), some (.inl a2), some (.inl a3), some (.inl a4), some (.inl a5)], [(.inl a5), (.inl 0), (.inl a1), (.inr (20, 0))], (q2.2.1, (fj_u1 q2.2.2 24 0 a1.toNatClampNeg ((q2.2.2 24 0 a1.toNatClampNeg) + 1)))) rfl ?_
                    cases hq18 : dm_101 a1 0 a5 (q2.2.1, (fj_u1 q2.2.2 24 0 a1.toNatClampNeg ((q2.2.2 24 0 a1.toNatClampNeg) + 1))) with
                    | none => rw [hq18] at h; cases h
                    | some q18 =>
                      rw [hq18, Option.bind_some] at h
                      refine fj_cl rfl (de_101 X a1 0 a5 (q2.2.1, (fj_u1 q2.2.2 24 0 a1.toNatClampNeg ((q2.2.2 24 0 a1.toNatClampNeg) + 1))) _ hq18) ?_
                      refine fj_blk 2 (104, 237, [some (.inr (20, 0)), some (.inl a1), some (.inl a2), some (.inl a3), some (.inl a4), some (.inl a5)], [(.inl 0)], q18) rfl ?_
                      cases h
                      exact fj_ri rfl rfl
                  · rw [if_neg hc17] at h
                    by_cases hc19 : a2 = 6
                    · rw [if_pos hc19] at h
                      refine fj_swg (t := 222) rfl (by rw [hc19]; rfl) ?_
                      refine fj_blk 6 (104, 230, [some (.inr (20, 0)), some (.inl a1), some (.inl a2), some (.inl a3), some (.inl a4), some (.inl a5)], [(.inl a5), (.inl a4), (.inl a2), (.inl 2), (.inl a1), (.inr (20, 0))], (q2.2.1, (fj_u1 q2.2.2 24 0 a1.toNatClampNeg ((q2.2.2 24 0 a1.toNatClampNeg) + 1)))) rfl ?_
                      cases hq20 : dm_105 a2 a4 a5 (q2.2.1, (fj_u1 q2.2.2 24 0 a1.toNatClampNeg ((q2.2.2 24 0 a1.toNatClampNeg) + 1))) with
                      | none => rw [hq20] at h; cases h
                      | some q20 =>
                        rw [hq20, Option.bind_some] at h
                        refine fj_cl rfl (de_105 X a2 a4 a5 (q2.2.1, (fj_u1 q2.2.2 24 0 a1.toNatClampNeg ((q2.2.2 24 0 a1.toNatClampNeg) + 1))) _ hq20) ?_
                        cases hq21 : dm_101 a1 2 q20.1 q20.2 with
                        | none => rw [hq21] at h; cases h
                        | some q21 =>
                          rw [hq21, Option.bind_some] at h
                          refine fj_cl rfl (de_101 X a1 2 q20.1 q20.2 _ hq21) ?_
                          refine fj_blk 1 (104, 237, [some (.inr (20, 0)), some (.inl a1), some (.inl a2), some (.inl a3), some (.inl a4), some (.inl a5)], [(.inl 0)], q21) rfl ?_
                          cases h
                          exact fj_ri rfl rfl
                    · rw [if_neg hc19] at h
                      by_cases hc22 : a2 = 7
                      · rw [if_pos hc22] at h
                        refine fj_swg (t := 222) rfl (by rw [hc22]; rfl) ?_
                        refine fj_blk 6 (104, 230, [some (.inr (20, 0)), some (.inl a1), some (.inl a2), some (.inl a3), some (.inl a4), some (.inl a5)], [(.inl a5), (.inl a4), (.inl a2), (.inl 2), (.inl a1), (.inr (20, 0))], (q2.2.1, (fj_u1 q2.2.2 24 0 a1.toNatClampNeg ((q2.2.2 24 0 a1.toNatClampNeg) + 1)))) rfl ?_
                        cases hq23 : dm_105 a2 a4 a5 (q2.2.1, (fj_u1 q2.2.2 24 0 a1.toNatClampNeg ((q2.2.2 24 0 a1.toNatClampNeg) + 1))) with
                        | none => rw [hq23] at h; cases h
                        | some q23 =>
                          rw [hq23, Option.bind_some] at h
                          refine fj_cl rfl (de_105 X a2 a4 a5 (q2.2.1, (fj_u1 q2.2.2 24 0 a1.toNatClampNeg ((q2.2.2 24 0 a1.toNatClampNeg) + 1))) _ hq23) ?_
                          cases hq24 : dm_101 a1 2 q23.1 q23.2 with
                          | none => rw [hq24] at h; cases h
                          | some q24 =>
                            rw [hq24, Option.bind_some] at h
                            refine fj_cl rfl (de_101 X a1 2 q23.1 q23.2 _ hq24) ?_
                            refine fj_blk 1 (104, 237, [some (.inr (20, 0)), some (.inl a1), some (.inl a2), some (.inl a3), some (.inl a4), some (.inl a5)], [(.inl 0)], q24) rfl ?_
                            cases h
                            exact fj_ri rfl rfl
                      · rw [if_neg hc22] at h
                        by_cases hc25 : a2 = 8
                        · rw [if_pos hc25] at h
                          refine fj_swg (t := 222) rfl (by rw [hc25]; rfl) ?_
                          refine fj_blk 6 (104, 230, [some (.inr (20, 0)), some (.inl a1), some (.inl a2), some (.inl a3), some (.inl a4), some (.inl a5)], [(.inl a5), (.inl a4), (.inl a2), (.inl 2), (.inl a1), (.inr (20, 0))], (q2.2.1, (fj_u1 q2.2.2 24 0 a1.toNatClampNeg ((q2.2.2 24 0 a1.toNatClampNeg) + 1)))) rfl ?_
                          cases hq26 : dm_105 a2 a4 a5 (q2.2.1, (fj_u1 q2.2.2 24 0 a1.toNatClampNeg ((q2.2.2 24 0 a1.toNatClampNeg) + 1))) with
                          | none => rw [hq26] at h; cases h
                          | some q26 =>
                            rw [hq26, Option.bind_some] at h
                            refine fj_cl rfl (de_105 X a2 a4 a5 (q2.2.1, (fj_u1 q2.2.2 24 0 a1.toNatClampNeg ((q2.2.2 24 0 a1.toNatClampNeg) + 1))) _ hq26) ?_
                            cases hq27 : dm_101 a1 2 q26.1 q26.2 with
                            | none => rw [hq27] at h; cases h
                            | some q27 =>
                              rw [hq27, Option.bind_some] at h
                              refine fj_cl rfl (de_101 X a1 2 q26.1 q26.2 _ hq27) ?_
                              refine fj_blk 1 (104, 237, [some (.inr (20, 0)), some (.inl a1), some (.inl a2), some (.inl a3), some (.inl a4), some (.inl a5)], [(.inl 0)], q27) rfl ?_
                              cases h
                              exact fj_ri rfl rfl
                        · rw [if_neg hc25] at h
                          by_cases hc28 : a2 = 9
                          · rw [if_pos hc28] at h
                            refine fj_swg (t := 222) rfl (by rw [hc28]; rfl) ?_
                            refine fj_blk 6 (104, 230, [some (.inr (20, 0)), some (.inl a1), some (.inl a2), some (.inl a3), some (.inl a4), some (.inl a5)], [(.inl a5), (.inl a4), (.inl a2), (.inl 2), (.inl a1), (.inr (20, 0))], (q2.2.1, (fj_u1 q2.2.2 24 0 a1.toNatClampNeg ((q2.2.2 24 0 a1.toNatClampNeg) + 1)))) rfl ?_
                            cases hq29 : dm_105 a2 a4 a5 (q2.2.1, (fj_u1 q2.2.2 24 0 a1.toNatClampNeg ((q2.2.2 24 0 a1.toNatClampNeg) + 1))) with
                            | none => rw [hq29] at h; cases h
                            | some q29 =>
                              rw [hq29, Option.bind_some] at h
                              refine fj_cl rfl (de_105 X a2 a4 a5 (q2.2.1, (fj_u1 q2.2.2 24 0 a1.toNatClampNeg ((q2.2.2 24 0 a1.toNatClampNeg) + 1))) _ hq29) ?_
                              cases hq30 : dm_101 a1 2 q29.1 q29.2 with
                              | none => rw [hq30] at h; cases h
                              | some q30 =>
                                rw [hq30, Option.bind_some] at h
                                refine fj_cl rfl (de_101 X a1 2 q29.1 q29.2 _ hq30) ?_
                                refine fj_blk 1 (104, 237, [some (.inr (20, 0)), some (.inl a1), some (.inl a2), some (.inl a3), some (.inl a4), some (.inl a5)], [(.inl 0)], q30) rfl ?_
                                cases h
                                exact fj_ri rfl rfl
                          · rw [if_neg hc28] at h
                            by_cases hc31 : a2 = 10
                            · rw [if_pos hc31] at h
                              refine fj_swg (t := 222) rfl (by rw [hc31]; rfl) ?_
                              refine fj_blk 6 (104, 230, [some (.inr (20, 0)), some (.inl a1), some (.inl a2), some (.inl a3), some (.inl a4), some (.inl a5)], [(.inl a5), (.inl a4), (.inl a2), (.inl 2), (.inl a1), (.inr (20, 0))], (q2.2.1, (fj_u1 q2.2.2 24 0 a1.toNatClampNeg ((q2.2.2 24 0 a1.toNatClampNeg) + 1)))) rfl ?_
                              cases hq32 : dm_105 a2 a4 a5 (q2.2.1, (fj_u1 q2.2.2 24 0 a1.toNatClampNeg ((q2.2.2 24 0 a1.toNatClampNeg) + 1))) with
                              | none => rw [hq32] at h; cases h
                              | some q32 =>
                                rw [hq32, Option.bind_some] at h
                                refine fj_cl rfl (de_105 X a2 a4 a5 (q2.2.1, (fj_u1 q2.2.2 24 0 a1.toNatClampNeg ((q2.2.2 24 0 a1.toNatClampNeg) + 1))) _ hq32) ?_
                                cases hq33 : dm_101 a1 2 q32.1 q32.2 with
                                | none => rw [hq33] at h; cases h
                                | some q33 =>
                                  rw [hq33, Option.bind_some] at h
                                  refine fj_cl rfl (de_101 X a1 2 q32.1 q32.2 _ hq33) ?_
                                  refine fj_blk 1 (104, 237, [some (.inr (20, 0)), some (.inl a1), some (.inl a2), some (.inl a3), some (.inl a4), some (.inl a5)], [(.inl 0)], q33) rfl ?_
                                  cases h
                                  exact fj_ri rfl rfl
                            · rw [if_neg hc31] at h
                              by_cases hc34 : a2 = 11
                              · rw [if_pos hc34] at h
                                refine fj_swg (t := 191) rfl (by rw [hc34]; rfl) ?_
                                refine fj_blk 5 (104, 197, [some (.inr (20, 0)), some (.inl a1), some (.inl a2), some (.inl a3), some (.inl a4), some (.inl a5)], [(.inl (-a4)), (.inl 1), (.inl a1), (.inr (20, 0))], (q2.2.1, (fj_u1 q2.2.2 24 0 a1.toNatClampNeg ((q2.2.2 24 0 a1.toNatClampNeg) + 1)))) rfl ?_
                                cases hq35 : dm_101 a1 1 (-a4) (q2.2.1, (fj_u1 q2.2.2 24 0 a1.toNatClampNeg ((q2.2.2 24 0 a1.toNatClampNeg) + 1))) with
                                | none => rw [hq35] at h; cases h
                                | some q35 =>
                                  rw [hq35, Option.bind_some] at h
                                  refine fj_cl rfl (de_101 X a1 1 (-a4) (q2.2.1, (fj_u1 q2.2.2 24 0 a1.toNatClampNeg ((q2.2.2 24 0 a1.toNatClampNeg) + 1))) _ hq35) ?_
                                  refine fj_blk 2 (104, 237, [some (.inr (20, 0)), some (.inl a1), some (.inl a2), some (.inl a3), some (.inl a4), some (.inl a5)], [(.inl 0)], q35) rfl ?_
                                  cases h
                                  exact fj_ri rfl rfl
                              · rw [if_neg hc34] at h
                                by_cases hc36 : a2 = 12
                                · rw [if_pos hc36] at h
                                  refine fj_swg (t := 222) rfl (by rw [hc36]; rfl) ?_
                                  refine fj_blk 6 (104, 230, [some (.inr (20, 0)), some (.inl a1), some (.inl a2), some (.inl a3), some (.inl a4), some (.inl a5)], [(.inl a5), (.inl a4), (.inl a2), (.inl 2), (.inl a1), (.inr (20, 0))], (q2.2.1, (fj_u1 q2.2.2 24 0 a1.toNatClampNeg ((q2.2.2 24 0 a1.toNatClampNeg) + 1)))) rfl ?_
                                  cases hq37 : dm_105 a2 a4 a5 (q2.2.1, (fj_u1 q2.2.2 24 0 a1.toNatClampNeg ((q2.2.2 24 0 a1.toNatClampNeg) + 1))) with
                                  | none => rw [hq37] at h; cases h
                                  | some q37 =>
                                    rw [hq37, Option.bind_some] at h
                                    refine fj_cl rfl (de_105 X a2 a4 a5 (q2.2.1, (fj_u1 q2.2.2 24 0 a1.toNatClampNeg ((q2.2.2 24 0 a1.toNatClampNeg) + 1))) _ hq37) ?_
                                    cases hq38 : dm_101 a1 2 q37.1 q37.2 with
                                    | none => rw [hq38] at h; cases h
                                    | some q38 =>
                                      rw [hq38, Option.bind_some] at h
                                      refine fj_cl rfl (de_101 X a1 2 q37.1 q37.2 _ hq38) ?_
                                      refine fj_blk 1 (104, 237, [some (.inr (20, 0)), some (.inl a1), some (.inl a2), some (.inl a3), some (.inl a4), some (.inl a5)], [(.inl 0)], q38) rfl ?_
                                      cases h
                                      exact fj_ri rfl rfl
                                · rw [if_neg hc36] at h
                                  by_cases hc39 : a2 = 13
                                  · rw [if_pos hc39] at h
                                    refine fj_swg (t := 222) rfl (by rw [hc39]; rfl) ?_
                                    refine fj_blk 6 (104, 230, [some (.inr (20, 0)), some (.inl a1), some (.inl a2), some (.inl a3), some (.inl a4), some (.inl a5)], [(.inl a5), (.inl a4), (.inl a2), (.inl 2), (.inl a1), (.inr (20, 0))], (q2.2.1, (fj_u1 q2.2.2 24 0 a1.toNatClampNeg ((q2.2.2 24 0 a1.toNatClampNeg) + 1)))) rfl ?_
                                    cases hq40 : dm_105 a2 a4 a5 (q2.2.1, (fj_u1 q2.2.2 24 0 a1.toNatClampNeg ((q2.2.2 24 0 a1.toNatClampNeg) + 1))) with
                                    | none => rw [hq40] at h; cases h
                                    | some q40 =>
                                      rw [hq40, Option.bind_some] at h
                                      refine fj_cl rfl (de_105 X a2 a4 a5 (q2.2.1, (fj_u1 q2.2.2 24 0 a1.toNatClampNeg ((q2.2.2 24 0 a1.toNatClampNeg) + 1))) _ hq40) ?_
                                      cases hq41 : dm_101 a1 2 q40.1 q40.2 with
                                      | none => rw [hq41] at h; cases h
                                      | some q41 =>
                                        rw [hq41, Option.bind_some] at h
                                        refine fj_cl rfl (de_101 X a1 2 q40.1 q40.2 _ hq41) ?_
                                        refine fj_blk 1 (104, 237, [some (.inr (20, 0)), some (.inl a1), some (.inl a2), some (.inl a3), some (.inl a4), some (.inl a5)], [(.inl 0)], q41) rfl ?_
                                        cases h
                                        exact fj_ri rfl rfl
                                  · rw [if_neg hc39] at h
                                    by_cases hc42 : a2 = 14
                                    · rw [if_pos hc42] at h
                                      refine fj_swg (t := 222) rfl (by rw [hc42]; rfl) ?_
                                      refine fj_blk 6 (104, 230, [some (.inr (20, 0)), some (.inl a1), some (.inl a2), some (.inl a3), some (.inl a4), some (.inl a5)], [(.inl a5), (.inl a4), (.inl a2), (.inl 2), (.inl a1), (.inr (20, 0))], (q2.2.1, (fj_u1 q2.2.2 24 0 a1.toNatClampNeg ((q2.2.2 24 0 a1.toNatClampNeg) + 1)))) rfl ?_
                                      cases hq43 : dm_105 a2 a4 a5 (q2.2.1, (fj_u1 q2.2.2 24 0 a1.toNatClampNeg ((q2.2.2 24 0 a1.toNatClampNeg) + 1))) with
                                      | none => rw [hq43] at h; cases h
                                      | some q43 =>
                                        rw [hq43, Option.bind_some] at h
                                        refine fj_cl rfl (de_105 X a2 a4 a5 (q2.2.1, (fj_u1 q2.2.2 24 0 a1.toNatClampNeg ((q2.2.2 24 0 a1.toNatClampNeg) + 1))) _ hq43) ?_
                                        cases hq44 : dm_101 a1 2 q43.1 q43.2 with
                                        | none => rw [hq44] at h; cases h
                                        | some q44 =>
                                          rw [hq44, Option.bind_some] at h
                                          refine fj_cl rfl (de_101 X a1 2 q43.1 q43.2 _ hq44) ?_
                                          refine fj_blk 1 (104, 237, [some (.inr (20, 0)), some (.inl a1), some (.inl a2), some (.inl a3), some (.inl a4), some (.inl a5)], [(.inl 0)], q44) rfl ?_
                                          cases h
                                          exact fj_ri rfl rfl
                                    · rw [if_neg hc42] at h
                                      by_cases hc45 : a2 = 15
                                      · rw [if_pos hc45] at h
                                        refine fj_swg (t := 222) rfl (by rw [hc45]; rfl) ?_
                                        refine fj_blk 6 (104, 230, [some (.inr (20, 0)), some (.inl a1), some (.inl a2), some (.inl a3), some (.inl a4), some (.inl a5)], [(.inl a5), (.inl a4), (.inl a2), (.inl 2), (.inl a1), (.inr (20, 0))], (q2.2.1, (fj_u1 q2.2.2 24 0 a1.toNatClampNeg ((q2.2.2 24 0 a1.toNatClampNeg) + 1)))) rfl ?_
                                        cases hq46 : dm_105 a2 a4 a5 (q2.2.1, (fj_u1 q2.2.2 24 0 a1.toNatClampNeg ((q2.2.2 24 0 a1.toNatClampNeg) + 1))) with
                                        | none => rw [hq46] at h; cases h
                                        | some q46 =>
                                          rw [hq46, Option.bind_some] at h
                                          refine fj_cl rfl (de_105 X a2 a4 a5 (q2.2.1, (fj_u1 q2.2.2 24 0 a1.toNatClampNeg ((q2.2.2 24 0 a1.toNatClampNeg) + 1))) _ hq46) ?_
                                          cases hq47 : dm_101 a1 2 q46.1 q46.2 with
                                          | none => rw [hq47] at h; cases h
                                          | some q47 =>
                                            rw [hq47, Option.bind_some] at h
                                            refine fj_cl rfl (de_101 X a1 2 q46.1 q46.2 _ hq47) ?_
                                            refine fj_blk 1 (104, 237, [some (.inr (20, 0)), some (.inl a1), some (.inl a2), some (.inl a3), some (.inl a4), some (.inl a5)], [(.inl 0)], q47) rfl ?_
                                            cases h
                                            exact fj_ri rfl rfl
                                      · rw [if_neg hc45] at h
                                        by_cases hc48 : a2 = 16
                                        · rw [if_pos hc48] at h
                                          refine fj_swg (t := 222) rfl (by rw [hc48]; rfl) ?_
                                          refine fj_blk 6 (104, 230, [some (.inr (20, 0)), some (.inl a1), some (.inl a2), some (.inl a3), some (.inl a4), some (.inl a5)], [(.inl a5), (.inl a4), (.inl a2), (.inl 2), (.inl a1), (.inr (20, 0))], (q2.2.1, (fj_u1 q2.2.2 24 0 a1.toNatClampNeg ((q2.2.2 24 0 a1.toNatClampNeg) + 1)))) rfl ?_
                                          cases hq49 : dm_105 a2 a4 a5 (q2.2.1, (fj_u1 q2.2.2 24 0 a1.toNatClampNeg ((q2.2.2 24 0 a1.toNatClampNeg) + 1))) with
                                          | none => rw [hq49] at h; cases h
                                          | some q49 =>
                                            rw [hq49, Option.bind_some] at h
                                            refine fj_cl rfl (de_105 X a2 a4 a5 (q2.2.1, (fj_u1 q2.2.2 24 0 a1.toNatClampNeg ((q2.2.2 24 0 a1.toNatClampNeg) + 1))) _ hq49) ?_
                                            cases hq50 : dm_101 a1 2 q49.1 q49.2 with
                                            | none => rw [hq50] at h; cases h
                                            | some q50 =>
                                              rw [hq50, Option.bind_some] at h
                                              refine fj_cl rfl (de_101 X a1 2 q49.1 q49.2 _ hq50) ?_
                                              refine fj_blk 1 (104, 237, [some (.inr (20, 0)), some (.inl a1), some (.inl a2), some (.inl a3), some (.inl a4), some (.inl a5)], [(.inl 0)], q50) rfl ?_
                                              cases h
                                              exact fj_ri rfl rfl
                                        · rw [if_neg hc48] at h
                                          by_cases hc51 : a2 = 17
                                          · rw [if_pos hc51] at h
                                            refine fj_swg (t := 222) rfl (by rw [hc51]; rfl) ?_
                                            refine fj_blk 6 (104, 230, [some (.inr (20, 0)), some (.inl a1), some (.inl a2), some (.inl a3), some (.inl a4), some (.inl a5)], [(.inl a5), (.inl a4), (.inl a2), (.inl 2), (.inl a1), (.inr (20, 0))], (q2.2.1, (fj_u1 q2.2.2 24 0 a1.toNatClampNeg ((q2.2.2 24 0 a1.toNatClampNeg) + 1)))) rfl ?_
                                            cases hq52 : dm_105 a2 a4 a5 (q2.2.1, (fj_u1 q2.2.2 24 0 a1.toNatClampNeg ((q2.2.2 24 0 a1.toNatClampNeg) + 1))) with
                                            | none => rw [hq52] at h; cases h
                                            | some q52 =>
                                              rw [hq52, Option.bind_some] at h
                                              refine fj_cl rfl (de_105 X a2 a4 a5 (q2.2.1, (fj_u1 q2.2.2 24 0 a1.toNatClampNeg ((q2.2.2 24 0 a1.toNatClampNeg) + 1))) _ hq52) ?_
                                              cases hq53 : dm_101 a1 2 q52.1 q52.2 with
                                              | none => rw [hq53] at h; cases h
                                              | some q53 =>
                                                rw [hq53, Option.bind_some] at h
                                                refine fj_cl rfl (de_101 X a1 2 q52.1 q52.2 _ hq53) ?_
                                                refine fj_blk 1 (104, 237, [some (.inr (20, 0)), some (.inl a1), some (.inl a2), some (.inl a3), some (.inl a4), some (.inl a5)], [(.inl 0)], q53) rfl ?_
                                                cases h
                                                exact fj_ri rfl rfl
                                          · rw [if_neg hc51] at h
                                            by_cases hc54 : a2 = 18
                                            · rw [if_pos hc54] at h
                                              refine fj_swg (t := 222) rfl (by rw [hc54]; rfl) ?_
                                              refine fj_blk 6 (104, 230, [some (.inr (20, 0)), some (.inl a1), some (.inl a2), some (.inl a3), some (.inl a4), some (.inl a5)], [(.inl a5), (.inl a4), (.inl a2), (.inl 2), (.inl a1), (.inr (20, 0))], (q2.2.1, (fj_u1 q2.2.2 24 0 a1.toNatClampNeg ((q2.2.2 24 0 a1.toNatClampNeg) + 1)))) rfl ?_
                                              cases hq55 : dm_105 a2 a4 a5 (q2.2.1, (fj_u1 q2.2.2 24 0 a1.toNatClampNeg ((q2.2.2 24 0 a1.toNatClampNeg) + 1))) with
                                              | none => rw [hq55] at h; cases h
                                              | some q55 =>
                                                rw [hq55, Option.bind_some] at h
                                                refine fj_cl rfl (de_105 X a2 a4 a5 (q2.2.1, (fj_u1 q2.2.2 24 0 a1.toNatClampNeg ((q2.2.2 24 0 a1.toNatClampNeg) + 1))) _ hq55) ?_
                                                cases hq56 : dm_101 a1 2 q55.1 q55.2 with
                                                | none => rw [hq56] at h; cases h
                                                | some q56 =>
                                                  rw [hq56, Option.bind_some] at h
                                                  refine fj_cl rfl (de_101 X a1 2 q55.1 q55.2 _ hq56) ?_
                                                  refine fj_blk 1 (104, 237, [some (.inr (20, 0)), some (.inl a1), some (.inl a2), some (.inl a3), some (.inl a4), some (.inl a5)], [(.inl 0)], q56) rfl ?_
                                                  cases h
                                                  exact fj_ri rfl rfl
                                            · rw [if_neg hc54] at h
                                              by_cases hc57 : a2 = 19
                                              · rw [if_pos hc57] at h
                                                refine fj_swg (t := 203) rfl (by rw [hc57]; rfl) ?_
                                                refine fj_blk 4 (104, 208, [some (.inr (20, 0)), some (.inl a1), some (.inl a2), some (.inl a3), some (.inl a4), some (.inl a5)], [(.inl a4), (.inl 1), (.inl a1), (.inr (20, 0))], (q2.2.1, (fj_u1 q2.2.2 24 0 a1.toNatClampNeg ((q2.2.2 24 0 a1.toNatClampNeg) + 1)))) rfl ?_
                                                by_cases hc58 : a4 = 0
                                                · rw [if_pos hc58] at h
                                                  refine fj_bf rfl (fj_nf hc58) ?_
                                                  refine fj_blk 2 (104, 216, [some (.inr (20, 0)), some (.inl a1), some (.inl a2), some (.inl a3), some (.inl a4), some (.inl a5)], [(.inl 1), (.inl 1), (.inl a1), (.inr (20, 0))], (q2.2.1, (fj_u1 q2.2.2 24 0 a1.toNatClampNeg ((q2.2.2 24 0 a1.toNatClampNeg) + 1)))) rfl ?_
                                                  exact de_104_216 X a1 a2 a3 a4 a5 1 1 a1 (q2.2.1, (fj_u1 q2.2.2 24 0 a1.toNatClampNeg ((q2.2.2 24 0 a1.toNatClampNeg) + 1))) r h
                                                · rw [if_neg hc58] at h
                                                  refine fj_bt rfl (fj_nt hc58) ?_
                                                  refine fj_blk 1 (104, 216, [some (.inr (20, 0)), some (.inl a1), some (.inl a2), some (.inl a3), some (.inl a4), some (.inl a5)], [(.inl 0), (.inl 1), (.inl a1), (.inr (20, 0))], (q2.2.1, (fj_u1 q2.2.2 24 0 a1.toNatClampNeg ((q2.2.2 24 0 a1.toNatClampNeg) + 1)))) rfl ?_
                                                  exact de_104_216 X a1 a2 a3 a4 a5 0 1 a1 (q2.2.1, (fj_u1 q2.2.2 24 0 a1.toNatClampNeg ((q2.2.2 24 0 a1.toNatClampNeg) + 1))) r h
                                              · rw [if_neg hc57] at h
                                                refine fj_swg (t := 222) rfl (by simp only [fj_sw, hc6, hc7, hc9, hc12, hc14, hc17, hc19, hc22, hc25, hc28, hc31, hc34, hc36, hc39, hc42, hc45, hc48, hc51, hc54, hc57, if_false]) ?_
                                                refine fj_blk 6 (104, 230, [some (.inr (20, 0)), some (.inl a1), some (.inl a2), some (.inl a3), some (.inl a4), some (.inl a5)], [(.inl a5), (.inl a4), (.inl a2), (.inl 2), (.inl a1), (.inr (20, 0))], (q2.2.1, (fj_u1 q2.2.2 24 0 a1.toNatClampNeg ((q2.2.2 24 0 a1.toNatClampNeg) + 1)))) rfl ?_
                                                cases hq59 : dm_105 a2 a4 a5 (q2.2.1, (fj_u1 q2.2.2 24 0 a1.toNatClampNeg ((q2.2.2 24 0 a1.toNatClampNeg) + 1))) with
                                                | none => rw [hq59] at h; cases h
                                                | some q59 =>
                                                  rw [hq59, Option.bind_some] at h
                                                  refine fj_cl rfl (de_105 X a2 a4 a5 (q2.2.1, (fj_u1 q2.2.2 24 0 a1.toNatClampNeg ((q2.2.2 24 0 a1.toNatClampNeg) + 1))) _ hq59) ?_
                                                  cases hq60 : dm_101 a1 2 q59.1 q59.2 with
                                                  | none => rw [hq60] at h; cases h
                                                  | some q60 =>
                                                    rw [hq60, Option.bind_some] at h
                                                    refine fj_cl rfl (de_101 X a1 2 q59.1 q59.2 _ hq60) ?_
                                                    refine fj_blk 1 (104, 237, [some (.inr (20, 0)), some (.inl a1), some (.inl a2), some (.inl a3), some (.inl a4), some (.inl a5)], [(.inl 0)], q60) rfl ?_
                                                    cases h
                                                    exact fj_ri rfl rfl
      · rw [if_neg hc3] at h
        refine fj_bf rfl (decide_eq_false hc3) ?_
        refine fj_blk 1 (104, 17, [some (.inr (20, 0)), some (.inl a1), some (.inl a2), some (.inl a3), some (.inl a4), some (.inl a5)], [(.inl 3)], q2.2) rfl ?_
        cases h
        exact fj_ri rfl rfl
def dm_102_411  (a1 : Int32) (a2 : Int32) (a3 : Int32) (a4 : Int32) (a5 : Int32) (a6 : Int32) (a7 : Int32) (M : fj_M) : Option (Int32 × fj_M) := (if a3 < 20 then ((dm_104 a1 a3 a4 a5 a6 M).bind fun q2 => some (q2.1, q2.2)) else ((dm_109 a1 a3 a4 a5 a6 M).bind fun q3 => some (q3.1, q3.2)))
set_option maxRecDepth 40000 in
theorem de_102_411 (X : fj_X) (a1 : Int32) (a2 : Int32) (a3 : Int32) (a4 : Int32) (a5 : Int32) (a6 : Int32) (a7 : Int32) (M : fj_M) (r : (Int32 × fj_M)) (h : dm_102_411 a1 a2 a3 a4 a5 a6 a7 M = some r) : fj_ev X (102, 411, [some (.inr (20, 0)), some (.inl a1), some (.inl a2), some (.inl a3), some (.inl a4), some (.inl a5), some (.inl a6), some (.inl a7)], [], M) (some r.1, r.2) := by
    unfold dm_102_411 at h
    refine fj_blk 2 (102, 414, [some (.inr (20, 0)), some (.inl a1), some (.inl a2), some (.inl a3), some (.inl a4), some (.inl a5), some (.inl a6), some (.inl a7)], [(.inl 20), (.inl a3)], M) rfl ?_
    by_cases hc1 : a3 < 20
    · rw [if_pos hc1] at h
      refine fj_bt rfl (decide_eq_true hc1) ?_
      refine fj_blk 6 (102, 439, [some (.inr (20, 0)), some (.inl a1), some (.inl a2), some (.inl a3), some (.inl a4), some (.inl a5), some (.inl a6), some (.inl a7)], [(.inl a6), (.inl a5), (.inl a4), (.inl a3), (.inl a1), (.inr (20, 0))], M) rfl ?_
      cases hq2 : dm_104 a1 a3 a4 a5 a6 M with
      | none => rw [hq2] at h; cases h
      | some q2 =>
        rw [hq2, Option.bind_some] at h
        refine fj_cl rfl (de_104 X a1 a3 a4 a5 a6 M _ hq2) ?_
        cases h
        exact fj_ri rfl rfl
    · rw [if_neg hc1] at h
      refine fj_bf rfl (decide_eq_false hc1) ?_
      refine fj_blk 6 (102, 426, [some (.inr (20, 0)), some (.inl a1), some (.inl a2), some (.inl a3), some (.inl a4), some (.inl a5), some (.inl a6), some (.inl a7)], [(.inl a6), (.inl a5), (.inl a4), (.inl a3), (.inl a1), (.inr (20, 0))], M) rfl ?_
      cases hq3 : dm_109 a1 a3 a4 a5 a6 M with
      | none => rw [hq3] at h; cases h
      | some q3 =>
        rw [hq3, Option.bind_some] at h
        refine fj_cl rfl (de_109 X a1 a3 a4 a5 a6 M _ hq3) ?_
        cases h
        exact fj_ri rfl rfl
def dm_102_388  (a1 : Int32) (a2 : Int32) (a3 : Int32) (a4 : Int32) (a5 : Int32) (a6 : Int32) (a7 : Int32) (M : fj_M) : Option (Int32 × fj_M) := (if a3 < 31 then dm_102_411 a1 a2 a3 a4 a5 a6 a7 M else (if 35 < a3 then dm_102_411 a1 a2 a3 a4 a5 a6 a7 M else ((dm_107 a1 a3 a4 a5 M).bind fun q3 => some (q3.1, q3.2))))
set_option maxRecDepth 40000 in
theorem de_102_388 (X : fj_X) (a1 : Int32) (a2 : Int32) (a3 : Int32) (a4 : Int32) (a5 : Int32) (a6 : Int32) (a7 : Int32) (M : fj_M) (r : (Int32 × fj_M)) (h : dm_102_388 a1 a2 a3 a4 a5 a6 a7 M = some r) : fj_ev X (102, 388, [some (.inr (20, 0)), some (.inl a1), some (.inl a2), some (.inl a3), some (.inl a4), some (.inl a5), some (.inl a6), some (.inl a7)], [], M) (some r.1, r.2) := by
    unfold dm_102_388 at h
    refine fj_blk 2 (102, 391, [some (.inr (20, 0)), some (.inl a1), some (.inl a2), some (.inl a3), some (.inl a4), some (.inl a5), some (.inl a6), some (.inl a7)], [(.inl 31), (.inl a3)], M) rfl ?_
    by_cases hc1 : a3 < 31
    · rw [if_pos hc1] at h
      refine fj_bt rfl (decide_eq_true hc1) ?_
      exact de_102_411 X a1 a2 a3 a4 a5 a6 a7 M r h
    · rw [if_neg hc1] at h
      refine fj_bf rfl (decide_eq_false hc1) ?_
      refine fj_blk 2 (102, 397, [some (.inr (20, 0)), some (.inl a1), some (.inl a2), some (.inl a3), some (.inl a4), some (.inl a5), some (.inl a6), some (.inl a7)], [(.inl 35), (.inl a3)], M) rfl ?_
      by_cases hc2 : 35 < a3
      · rw [if_pos hc2] at h
        refine fj_bt rfl (decide_eq_true hc2) ?_
        exact de_102_411 X a1 a2 a3 a4 a5 a6 a7 M r h
      · rw [if_neg hc2] at h
        refine fj_bf rfl (decide_eq_false hc2) ?_
        refine fj_blk 5 (102, 407, [some (.inr (20, 0)), some (.inl a1), some (.inl a2), some (.inl a3), some (.inl a4), some (.inl a5), some (.inl a6), some (.inl a7)], [(.inl a5), (.inl a4), (.inl a3), (.inl a1), (.inr (20, 0))], M) rfl ?_
        cases hq3 : dm_107 a1 a3 a4 a5 M with
        | none => rw [hq3] at h; cases h
        | some q3 =>
          rw [hq3, Option.bind_some] at h
          refine fj_cl rfl (de_107 X a1 a3 a4 a5 M _ hq3) ?_
          cases h
          exact fj_ri rfl rfl
def dm_102_358  (a1 : Int32) (a2 : Int32) (a3 : Int32) (a4 : Int32) (a5 : Int32) (a6 : Int32) (a7 : Int32) (M : fj_M) : Option (Int32 × fj_M) := ((dm_78 a5 0 11 M).bind fun q1 => (if q1.1 = 0 then some (7, q1.2) else (if a5 = a1 then some (7, q1.2) else (if a5 < 0 ∨ 12 ≤ a5.toNatClampNeg then none else (if (q1.2.2 23 0 a5.toNatClampNeg) = 0 then some (7, q1.2) else dm_102_388 a1 a2 a3 a4 a5 a6 a7 q1.2)))))
set_option maxRecDepth 40000 in
theorem de_102_358 (X : fj_X) (a1 : Int32) (a2 : Int32) (a3 : Int32) (a4 : Int32) (a5 : Int32) (a6 : Int32) (a7 : Int32) (M : fj_M) (r : (Int32 × fj_M)) (h : dm_102_358 a1 a2 a3 a4 a5 a6 a7 M = some r) : fj_ev X (102, 358, [some (.inr (20, 0)), some (.inl a1), some (.inl a2), some (.inl a3), some (.inl a4), some (.inl a5), some (.inl a6), some (.inl a7)], [], M) (some r.1, r.2) := by
    unfold dm_102_358 at h
    refine fj_blk 3 (102, 363, [some (.inr (20, 0)), some (.inl a1), some (.inl a2), some (.inl a3), some (.inl a4), some (.inl a5), some (.inl a6), some (.inl a7)], [(.inl 11), (.inl 0), (.inl a5)], M) rfl ?_
    cases hq1 : dm_78 a5 0 11 M with
    | none => rw [hq1] at h; cases h
    | some q1 =>
      rw [hq1, Option.bind_some] at h
      refine fj_cl rfl (de_78 X a5 0 11 M _ hq1) ?_
      by_cases hc2 : q1.1 = 0
      · rw [if_pos hc2] at h
        refine fj_bt rfl (decide_eq_true hc2) ?_
        refine fj_blk 1 (102, 387, [some (.inr (20, 0)), some (.inl a1), some (.inl a2), some (.inl a3), some (.inl a4), some (.inl a5), some (.inl a6), some (.inl a7)], [(.inl 7)], q1.2) rfl ?_
        cases h
        exact fj_ri rfl rfl
      · rw [if_neg hc2] at h
        refine fj_bf rfl (decide_eq_false hc2) ?_
        refine fj_blk 2 (102, 372, [some (.inr (20, 0)), some (.inl a1), some (.inl a2), some (.inl a3), some (.inl a4), some (.inl a5), some (.inl a6), some (.inl a7)], [(.inl a1), (.inl a5)], q1.2) rfl ?_
        by_cases hc3 : a5 = a1
        · rw [if_pos hc3] at h
          refine fj_bt rfl (decide_eq_true hc3) ?_
          refine fj_blk 1 (102, 387, [some (.inr (20, 0)), some (.inl a1), some (.inl a2), some (.inl a3), some (.inl a4), some (.inl a5), some (.inl a6), some (.inl a7)], [(.inl 7)], q1.2) rfl ?_
          cases h
          exact fj_ri rfl rfl
        · rw [if_neg hc3] at h
          refine fj_bf rfl (decide_eq_false hc3) ?_
          refine fj_blk 3 (102, 381, [some (.inr (20, 0)), some (.inl a1), some (.inl a2), some (.inl a3), some (.inl a4), some (.inl a5), some (.inl a6), some (.inl a7)], [(.inl a5), (.inr (23, 0))], q1.2) rfl ?_
          by_cases hc4 : a5 < 0 ∨ 12 ≤ a5.toNatClampNeg
          · rw [if_pos hc4] at h
            cases h
          rw [if_neg hc4] at h
          refine fj_ald rfl rfl hc4 ?_
          by_cases hc5 : (q1.2.2 23 0 a5.toNatClampNeg) = 0
          · rw [if_pos hc5] at h
            refine fj_bf rfl (fj_nf hc5) ?_
            refine fj_blk 1 (102, 387, [some (.inr (20, 0)), some (.inl a1), some (.inl a2), some (.inl a3), some (.inl a4), some (.inl a5), some (.inl a6), some (.inl a7)], [(.inl 7)], q1.2) rfl ?_
            cases h
            exact fj_ri rfl rfl
          · rw [if_neg hc5] at h
            refine fj_bt rfl (fj_nt hc5) ?_
            exact de_102_388 X a1 a2 a3 a4 a5 a6 a7 q1.2 r h
def dm_102_341  (a1 : Int32) (a2 : Int32) (a3 : Int32) (a4 : Int32) (a5 : Int32) (a6 : Int32) (a7 : Int32) (M : fj_M) : Option (Int32 × fj_M) := ((dm_78 a3 40 41 M).bind fun q1 => (if q1.1 = 0 then (if a3 = 43 then dm_102_358 a1 a2 a3 a4 a5 a6 a7 q1.2 else dm_102_388 a1 a2 a3 a4 a5 a6 a7 q1.2) else dm_102_358 a1 a2 a3 a4 a5 a6 a7 q1.2))
set_option maxRecDepth 40000 in
theorem de_102_341 (X : fj_X) (a1 : Int32) (a2 : Int32) (a3 : Int32) (a4 : Int32) (a5 : Int32) (a6 : Int32) (a7 : Int32) (M : fj_M) (r : (Int32 × fj_M)) (h : dm_102_341 a1 a2 a3 a4 a5 a6 a7 M = some r) : fj_ev X (102, 341, [some (.inr (20, 0)), some (.inl a1), some (.inl a2), some (.inl a3), some (.inl a4), some (.inl a5), some (.inl a6), some (.inl a7)], [], M) (some r.1, r.2) := by
    unfold dm_102_341 at h
    refine fj_blk 3 (102, 346, [some (.inr (20, 0)), some (.inl a1), some (.inl a2), some (.inl a3), some (.inl a4), some (.inl a5), some (.inl a6), some (.inl a7)], [(.inl 41), (.inl 40), (.inl a3)], M) rfl ?_
    cases hq1 : dm_78 a3 40 41 M with
    | none => rw [hq1] at h; cases h
    | some q1 =>
      rw [hq1, Option.bind_some] at h
      refine fj_cl rfl (de_78 X a3 40 41 M _ hq1) ?_
      by_cases hc2 : q1.1 = 0
      · rw [if_pos hc2] at h
        refine fj_bf rfl (fj_nf hc2) ?_
        refine fj_blk 2 (102, 355, [some (.inr (20, 0)), some (.inl a1), some (.inl a2), some (.inl a3), some (.inl a4), some (.inl a5), some (.inl a6), some (.inl a7)], [(.inl 43), (.inl a3)], q1.2) rfl ?_
        by_cases hc3 : a3 = 43
        · rw [if_pos hc3] at h
          refine fj_bf rfl (fj_nf hc3) ?_
          exact de_102_358 X a1 a2 a3 a4 a5 a6 a7 q1.2 r h
        · rw [if_neg hc3] at h
          refine fj_bt rfl (fj_nt hc3) ?_
          exact de_102_388 X a1 a2 a3 a4 a5 a6 a7 q1.2 r h
      · rw [if_neg hc2] at h
        refine fj_bt rfl (fj_nt hc2) ?_
        exact de_102_358 X a1 a2 a3 a4 a5 a6 a7 q1.2 r h
def dm_102_306  (a1 : Int32) (a2 : Int32) (a3 : Int32) (a4 : Int32) (a5 : Int32) (a6 : Int32) (a7 : Int32) (M : fj_M) : Option (Int32 × fj_M) := (if a3 = 35 then (if a4 < 0 then some (6, M) else ((dm_87 (a4 &&& 7) M).bind fun q3 => (if q3.1 = 0 then some (6, q3.2) else ((dm_87 (a4 >>> (3 &&& 31)) q3.2).bind fun q5 => (if q5.1 = 0 then some (6, q5.2) else dm_102_341 a1 a2 a3 a4 a5 a6 a7 q5.2))))) else dm_102_341 a1 a2 a3 a4 a5 a6 a7 M)
set_option maxRecDepth 40000 in
theorem de_102_306 (X : fj_X) (a1 : Int32) (a2 : Int32) (a3 : Int32) (a4 : Int32) (a5 : Int32) (a6 : Int32) (a7 : Int32) (M : fj_M) (r : (Int32 × fj_M)) (h : dm_102_306 a1 a2 a3 a4 a5 a6 a7 M = some r) : fj_ev X (102, 306, [some (.inr (20, 0)), some (.inl a1), some (.inl a2), some (.inl a3), some (.inl a4), some (.inl a5), some (.inl a6), some (.inl a7)], [], M) (some r.1, r.2) := by
    unfold dm_102_306 at h
    refine fj_blk 2 (102, 309, [some (.inr (20, 0)), some (.inl a1), some (.inl a2), some (.inl a3), some (.inl a4), some (.inl a5), some (.inl a6), some (.inl a7)], [(.inl 35), (.inl a3)], M) rfl ?_
    by_cases hc1 : a3 = 35
    · rw [if_pos hc1] at h
      refine fj_bf rfl (fj_nf hc1) ?_
      refine fj_blk 1 (102, 314, [some (.inr (20, 0)), some (.inl a1), some (.inl a2), some (.inl a3), some (.inl a4), some (.inl a5), some (.inl a6), some (.inl a7)], [(.inl a4)], M) rfl ?_
      by_cases hc2 : a4 < 0
      · rw [if_pos hc2] at h
        refine fj_bt rfl (decide_eq_true hc2) ?_
        refine fj_blk 1 (102, 340, [some (.inr (20, 0)), some (.inl a1), some (.inl a2), some (.inl a3), some (.inl a4), some (.inl a5), some (.inl a6), some (.inl a7)], [(.inl 6)], M) rfl ?_
        cases h
        exact fj_ri rfl rfl
      · rw [if_neg hc2] at h
        refine fj_bf rfl (decide_eq_false hc2) ?_
        refine fj_blk 3 (102, 322, [some (.inr (20, 0)), some (.inl a1), some (.inl a2), some (.inl a3), some (.inl a4), some (.inl a5), some (.inl a6), some (.inl a7)], [(.inl (a4 &&& 7))], M) rfl ?_
        cases hq3 : dm_87 (a4 &&& 7) M with
        | none => rw [hq3] at h; cases h
        | some q3 =>
          rw [hq3, Option.bind_some] at h
          refine fj_cl rfl (de_87 X (a4 &&& 7) M _ hq3) ?_
          by_cases hc4 : q3.1 = 0
          · rw [if_pos hc4] at h
            refine fj_bt rfl (decide_eq_true hc4) ?_
            refine fj_blk 1 (102, 340, [some (.inr (20, 0)), some (.inl a1), some (.inl a2), some (.inl a3), some (.inl a4), some (.inl a5), some (.inl a6), some (.inl a7)], [(.inl 6)], q3.2) rfl ?_
            cases h
            exact fj_ri rfl rfl
          · rw [if_neg hc4] at h
            refine fj_bf rfl (decide_eq_false hc4) ?_
            refine fj_blk 3 (102, 332, [some (.inr (20, 0)), some (.inl a1), some (.inl a2), some (.inl a3), some (.inl a4), some (.inl a5), some (.inl a6), some (.inl a7)], [(.inl (a4 >>> (3 &&& 31)))], q3.2) rfl ?_
            cases hq5 : dm_87 (a4 >>> (3 &&& 31)) q3.2 with
            | none => rw [hq5] at h; cases h
            | some q5 =>
              rw [hq5, Option.bind_some] at h
              refine fj_cl rfl (de_87 X (a4 >>> (3 &&& 31)) q3.2 _ hq5) ?_
              by_cases hc6 : q5.1 = 0
              · rw [if_pos hc6] at h
                refine fj_bf rfl (fj_nf hc6) ?_
                refine fj_blk 1 (102, 340, [some (.inr (20, 0)), some (.inl a1), some (.inl a2), some (.inl a3), some (.inl a4), some (.inl a5), some (.inl a6), some (.inl a7)], [(.inl 6)], q5.2) rfl ?_
                cases h
                exact fj_ri rfl rfl
              · rw [if_neg hc6] at h
                refine fj_bt rfl (fj_nt hc6) ?_
                exact de_102_341 X a1 a2 a3 a4 a5 a6 a7 q5.2 r h
    · rw [if_neg hc1] at h
      refine fj_bt rfl (fj_nt hc1) ?_
      exact de_102_341 X a1 a2 a3 a4 a5 a6 a7 M r h
def dm_102_298  (a1 : Int32) (a2 : Int32) (a3 : Int32) (a4 : Int32) (a5 : Int32) (a6 : Int32) (a7 : Int32) (M : fj_M) : Option (Int32 × fj_M) := ((dm_87 a4 M).bind fun q1 => (if q1.1 = 0 then some (6, q1.2) else dm_102_306 a1 a2 a3 a4 a5 a6 a7 q1.2))
set_option maxRecDepth 40000 in
theorem de_102_298 (X : fj_X) (a1 : Int32) (a2 : Int32) (a3 : Int32) (a4 : Int32) (a5 : Int32) (a6 : Int32) (a7 : Int32) (M : fj_M) (r : (Int32 × fj_M)) (h : dm_102_298 a1 a2 a3 a4 a5 a6 a7 M = some r) : fj_ev X (102, 298, [some (.inr (20, 0)), some (.inl a1), some (.inl a2), some (.inl a3), some (.inl a4), some (.inl a5), some (.inl a6), some (.inl a7)], [], M) (some r.1, r.2) := by
    unfold dm_102_298 at h
    refine fj_blk 1 (102, 300, [some (.inr (20, 0)), some (.inl a1), some (.inl a2), some (.inl a3), some (.inl a4), some (.inl a5), some (.inl a6), some (.inl a7)], [(.inl a4)], M) rfl ?_
    cases hq1 : dm_87 a4 M with
    | none => rw [hq1] at h; cases h
    | some q1 =>
      rw [hq1, Option.bind_some] at h
      refine fj_cl rfl (de_87 X a4 M _ hq1) ?_
      by_cases hc2 : q1.1 = 0
      · rw [if_pos hc2] at h
        refine fj_bt rfl (decide_eq_true hc2) ?_
        refine fj_blk 1 (102, 340, [some (.inr (20, 0)), some (.inl a1), some (.inl a2), some (.inl a3), some (.inl a4), some (.inl a5), some (.inl a6), some (.inl a7)], [(.inl 6)], q1.2) rfl ?_
        cases h
        exact fj_ri rfl rfl
      · rw [if_neg hc2] at h
        refine fj_bf rfl (decide_eq_false hc2) ?_
        exact de_102_306 X a1 a2 a3 a4 a5 a6 a7 q1.2 r h
def dm_102_272  (a1 : Int32) (a2 : Int32) (a3 : Int32) (a4 : Int32) (a5 : Int32) (a6 : Int32) (a7 : Int32) (s0 : Int32) (M : fj_M) : Option (Int32 × fj_M) := (if s0 = 0 then ((dm_78 a3 31 34 M).bind fun q2 => (if q2.1 = 0 then (if a3 = 44 then dm_102_298 a1 a2 a3 a4 a5 a6 s0 q2.2 else dm_102_306 a1 a2 a3 a4 a5 a6 s0 q2.2) else dm_102_298 a1 a2 a3 a4 a5 a6 s0 q2.2)) else some (5, M))
set_option maxRecDepth 40000 in
theorem de_102_272 (X : fj_X) (a1 : Int32) (a2 : Int32) (a3 : Int32) (a4 : Int32) (a5 : Int32) (a6 : Int32) (a7 : Int32) (s0 : Int32) (M : fj_M) (r : (Int32 × fj_M)) (h : dm_102_272 a1 a2 a3 a4 a5 a6 a7 s0 M = some r) : fj_ev X (102, 272, [some (.inr (20, 0)), some (.inl a1), some (.inl a2), some (.inl a3), some (.inl a4), some (.inl a5), some (.inl a6), some (.inl a7)], [(.inl s0)], M) (some r.1, r.2) := by
    unfold dm_102_272 at h
    refine fj_blk 2 (102, 276, [some (.inr (20, 0)), some (.inl a1), some (.inl a2), some (.inl a3), some (.inl a4), some (.inl a5), some (.inl a6), some (.inl s0)], [(.inl s0)], M) rfl ?_
    by_cases hc1 : s0 = 0
    · rw [if_pos hc1] at h
      refine fj_bt rfl (decide_eq_true hc1) ?_
      refine fj_blk 3 (102, 286, [some (.inr (20, 0)), some (.inl a1), some (.inl a2), some (.inl a3), some (.inl a4), some (.inl a5), some (.inl a6), some (.inl s0)], [(.inl 34), (.inl 31), (.inl a3)], M) rfl ?_
      cases hq2 : dm_78 a3 31 34 M with
      | none => rw [hq2] at h; cases h
      | some q2 =>
        rw [hq2, Option.bind_some] at h
        refine fj_cl rfl (de_78 X a3 31 34 M _ hq2) ?_
        by_cases hc3 : q2.1 = 0
        · rw [if_pos hc3] at h
          refine fj_bf rfl (fj_nf hc3) ?_
          refine fj_blk 2 (102, 295, [some (.inr (20, 0)), some (.inl a1), some (.inl a2), some (.inl a3), some (.inl a4), some (.inl a5), some (.inl a6), some (.inl s0)], [(.inl 44), (.inl a3)], q2.2) rfl ?_
          by_cases hc4 : a3 = 44
          · rw [if_pos hc4] at h
            refine fj_bf rfl (fj_nf hc4) ?_
            exact de_102_298 X a1 a2 a3 a4 a5 a6 s0 q2.2 r h
          · rw [if_neg hc4] at h
            refine fj_bt rfl (fj_nt hc4) ?_
            exact de_102_306 X a1 a2 a3 a4 a5 a6 s0 q2.2 r h
        · rw [if_neg hc3] at h
          refine fj_bt rfl (fj_nt hc3) ?_
          exact de_102_298 X a1 a2 a3 a4 a5 a6 s0 q2.2 r h
    · rw [if_neg hc1] at h
      refine fj_bf rfl (decide_eq_false hc1) ?_
      refine fj_blk 1 (102, 280, [some (.inr (20, 0)), some (.inl a1), some (.inl a2), some (.inl a3), some (.inl a4), some (.inl a5), some (.inl a6), some (.inl s0)], [(.inl 5)], M) rfl ?_
      cases h
      exact fj_ri rfl rfl
def dm_102_267  (a1 : Int32) (a2 : Int32) (a3 : Int32) (a4 : Int32) (a5 : Int32) (a6 : Int32) (a7 : Int32) (M : fj_M) : Option (Int32 × fj_M) := dm_102_272 a1 a2 a3 a4 a5 a6 a7 1 M
set_option maxRecDepth 40000 in
theorem de_102_267 (X : fj_X) (a1 : Int32) (a2 : Int32) (a3 : Int32) (a4 : Int32) (a5 : Int32) (a6 : Int32) (a7 : Int32) (M : fj_M) (r : (Int32 × fj_M)) (h : dm_102_267 a1 a2 a3 a4 a5 a6 a7 M = some r) : fj_ev X (102, 267, [some (.inr (20, 0)), some (.inl a1), some (.inl a2), some (.inl a3), some (.inl a4), some (.inl a5), some (.inl a6), some (.inl a7)], [], M) (some r.1, r.2) := by
    unfold dm_102_267 at h
    refine fj_blk 2 (102, 272, [some (.inr (20, 0)), some (.inl a1), some (.inl a2), some (.inl a3), some (.inl a4), some (.inl a5), some (.inl a6), some (.inl a7)], [(.inl 1)], M) rfl ?_
    exact de_102_272 X a1 a2 a3 a4 a5 a6 a7 1 M r h
def dm_102_271  (a1 : Int32) (a2 : Int32) (a3 : Int32) (a4 : Int32) (a5 : Int32) (a6 : Int32) (a7 : Int32) (M : fj_M) : Option (Int32 × fj_M) := dm_102_272 a1 a2 a3 a4 a5 a6 a7 0 M
set_option maxRecDepth 40000 in
theorem de_102_271 (X : fj_X) (a1 : Int32) (a2 : Int32) (a3 : Int32) (a4 : Int32) (a5 : Int32) (a6 : Int32) (a7 : Int32) (M : fj_M) (r : (Int32 × fj_M)) (h : dm_102_271 a1 a2 a3 a4 a5 a6 a7 M = some r) : fj_ev X (102, 271, [some (.inr (20, 0)), some (.inl a1), some (.inl a2), some (.inl a3), some (.inl a4), some (.inl a5), some (.inl a6), some (.inl a7)], [], M) (some r.1, r.2) := by
    unfold dm_102_271 at h
    refine fj_blk 1 (102, 272, [some (.inr (20, 0)), some (.inl a1), some (.inl a2), some (.inl a3), some (.inl a4), some (.inl a5), some (.inl a6), some (.inl a7)], [(.inl 0)], M) rfl ?_
    exact de_102_272 X a1 a2 a3 a4 a5 a6 a7 0 M r h
def dm_102_245  (a1 : Int32) (a2 : Int32) (a3 : Int32) (a4 : Int32) (a5 : Int32) (a6 : Int32) (a7 : Int32) (M : fj_M) : Option (Int32 × fj_M) := ((dm_78 a3 26 27 M).bind fun q1 => (if q1.1 = 0 then dm_102_271 a1 a2 a3 a4 a5 a6 a7 q1.2 else ((dm_78 a5 0 63 q1.2).bind fun q3 => (if q3.1 = 0 then dm_102_267 a1 a2 a3 a4 a5 a6 a7 q3.2 else dm_102_271 a1 a2 a3 a4 a5 a6 a7 q3.2))))
set_option maxRecDepth 40000 in
theorem de_102_245 (X : fj_X) (a1 : Int32) (a2 : Int32) (a3 : Int32) (a4 : Int32) (a5 : Int32) (a6 : Int32) (a7 : Int32) (M : fj_M) (r : (Int32 × fj_M)) (h : dm_102_245 a1 a2 a3 a4 a5 a6 a7 M = some r) : fj_ev X (102, 245, [some (.inr (20, 0)), some (.inl a1), some (.inl a2), some (.inl a3), some (.inl a4), some (.inl a5), some (.inl a6), some (.inl a7)], [], M) (some r.1, r.2) := by
    unfold dm_102_245 at h
    refine fj_blk 3 (102, 250, [some (.inr (20, 0)), some (.inl a1), some (.inl a2), some (.inl a3), some (.inl a4), some (.inl a5), some (.inl a6), some (.inl a7)], [(.inl 27), (.inl 26), (.inl a3)], M) rfl ?_
    cases hq1 : dm_78 a3 26 27 M with
    | none => rw [hq1] at h; cases h
    | some q1 =>
      rw [hq1, Option.bind_some] at h
      refine fj_cl rfl (de_78 X a3 26 27 M _ hq1) ?_
      by_cases hc2 : q1.1 = 0
      · rw [if_pos hc2] at h
        refine fj_bt rfl (decide_eq_true hc2) ?_
        exact de_102_271 X a1 a2 a3 a4 a5 a6 a7 q1.2 r h
      · rw [if_neg hc2] at h
        refine fj_bf rfl (decide_eq_false hc2) ?_
        refine fj_blk 3 (102, 261, [some (.inr (20, 0)), some (.inl a1), some (.inl a2), some (.inl a3), some (.inl a4), some (.inl a5), some (.inl a6), some (.inl a7)], [(.inl 63), (.inl 0), (.inl a5)], q1.2) rfl ?_
        cases hq3 : dm_78 a5 0 63 q1.2 with
        | none => rw [hq3] at h; cases h
        | some q3 =>
          rw [hq3, Option.bind_some] at h
          refine fj_cl rfl (de_78 X a5 0 63 q1.2 _ hq3) ?_
          by_cases hc4 : q3.1 = 0
          · rw [if_pos hc4] at h
            refine fj_bf rfl (fj_nf hc4) ?_
            exact de_102_267 X a1 a2 a3 a4 a5 a6 a7 q3.2 r h
          · rw [if_neg hc4] at h
            refine fj_bt rfl (fj_nt hc4) ?_
            exact de_102_271 X a1 a2 a3 a4 a5 a6 a7 q3.2 r h
def dm_102_216  (a1 : Int32) (a2 : Int32) (a3 : Int32) (a4 : Int32) (a5 : Int32) (a6 : Int32) (s0 : Int32) (M : fj_M) : Option (Int32 × fj_M) := (if s0 = 0 then ((dm_78 a3 24 25 M).bind fun q2 => (if q2.1 = 0 then dm_102_245 a1 a2 a3 a4 a5 a6 s0 q2.2 else ((dm_78 a4 0 63 q2.2).bind fun q4 => (if q4.1 = 0 then dm_102_267 a1 a2 a3 a4 a5 a6 s0 q4.2 else dm_102_245 a1 a2 a3 a4 a5 a6 s0 q4.2)))) else dm_102_267 a1 a2 a3 a4 a5 a6 s0 M)
set_option maxRecDepth 40000 in
theorem de_102_216 (X : fj_X) (a1 : Int32) (a2 : Int32) (a3 : Int32) (a4 : Int32) (a5 : Int32) (a6 : Int32) (s0 : Int32) (M : fj_M) (r : (Int32 × fj_M)) (h : dm_102_216 a1 a2 a3 a4 a5 a6 s0 M = some r) : fj_ev X (102, 216, [some (.inr (20, 0)), some (.inl a1), some (.inl a2), some (.inl a3), some (.inl a4), some (.inl a5), some (.inl a6), none], [(.inl s0)], M) (some r.1, r.2) := by
    unfold dm_102_216 at h
    refine fj_blk 2 (102, 220, [some (.inr (20, 0)), some (.inl a1), some (.inl a2), some (.inl a3), some (.inl a4), some (.inl a5), some (.inl a6), some (.inl s0)], [(.inl s0)], M) rfl ?_
    by_cases hc1 : s0 = 0
    · rw [if_pos hc1] at h
      refine fj_bf rfl (fj_nf hc1) ?_
      refine fj_blk 3 (102, 228, [some (.inr (20, 0)), some (.inl a1), some (.inl a2), some (.inl a3), some (.inl a4), some (.inl a5), some (.inl a6), some (.inl s0)], [(.inl 25), (.inl 24), (.inl a3)], M) rfl ?_
      cases hq2 : dm_78 a3 24 25 M with
      | none => rw [hq2] at h; cases h
      | some q2 =>
        rw [hq2, Option.bind_some] at h
        refine fj_cl rfl (de_78 X a3 24 25 M _ hq2) ?_
        by_cases hc3 : q2.1 = 0
        · rw [if_pos hc3] at h
          refine fj_bt rfl (decide_eq_true hc3) ?_
          exact de_102_245 X a1 a2 a3 a4 a5 a6 s0 q2.2 r h
        · rw [if_neg hc3] at h
          refine fj_bf rfl (decide_eq_false hc3) ?_
          refine fj_blk 3 (102, 239, [some (.inr (20, 0)), some (.inl a1), some (.inl a2), some (.inl a3), some (.inl a4), some (.inl a5), some (.inl a6), some (.inl s0)], [(.inl 63), (.inl 0), (.inl a4)], q2.2) rfl ?_
          cases hq4 : dm_78 a4 0 63 q2.2 with
          | none => rw [hq4] at h; cases h
          | some q4 =>
            rw [hq4, Option.bind_some] at h
            refine fj_cl rfl (de_78 X a4 0 63 q2.2 _ hq4) ?_
            by_cases hc5 : q4.1 = 0
            · rw [if_pos hc5] at h
              refine fj_bt rfl (decide_eq_true hc5) ?_
              exact de_102_267 X a1 a2 a3 a4 a5 a6 s0 q4.2 r h
            · rw [if_neg hc5] at h
              refine fj_bf rfl (decide_eq_false hc5) ?_
              exact de_102_245 X a1 a2 a3 a4 a5 a6 s0 q4.2 r h
    · rw [if_neg hc1] at h
      refine fj_bt rfl (fj_nt hc1) ?_
      exact de_102_267 X a1 a2 a3 a4 a5 a6 s0 M r h
def dm_102_211  (a1 : Int32) (a2 : Int32) (a3 : Int32) (a4 : Int32) (a5 : Int32) (a6 : Int32) (M : fj_M) : Option (Int32 × fj_M) := dm_102_216 a1 a2 a3 a4 a5 a6 1 M
set_option maxRecDepth 40000 in
theorem de_102_211 (X : fj_X) (a1 : Int32) (a2 : Int32) (a3 : Int32) (a4 : Int32) (a5 : Int32) (a6 : Int32) (M : fj_M) (r : (Int32 × fj_M)) (h : dm_102_211 a1 a2 a3 a4 a5 a6 M = some r) : fj_ev X (102, 211, [some (.inr (20, 0)), some (.inl a1), some (.inl a2), some (.inl a3), some (.inl a4), some (.inl a5), some (.inl a6), none], [], M) (some r.1, r.2) := by
    unfold dm_102_211 at h
    refine fj_blk 2 (102, 216, [some (.inr (20, 0)), some (.inl a1), some (.inl a2), some (.inl a3), some (.inl a4), some (.inl a5), some (.inl a6), none], [(.inl 1)], M) rfl ?_
    exact de_102_216 X a1 a2 a3 a4 a5 a6 1 M r h
def dm_102_215  (a1 : Int32) (a2 : Int32) (a3 : Int32) (a4 : Int32) (a5 : Int32) (a6 : Int32) (M : fj_M) : Option (Int32 × fj_M) := dm_102_216 a1 a2 a3 a4 a5 a6 0 M
set_option maxRecDepth 40000 in
theorem de_102_215 (X : fj_X) (a1 : Int32) (a2 : Int32) (a3 : Int32) (a4 : Int32) (a5 : Int32) (a6 : Int32) (M : fj_M) (r : (Int32 × fj_M)) (h : dm_102_215 a1 a2 a3 a4 a5 a6 M = some r) : fj_ev X (102, 215, [some (.inr (20, 0)), some (.inl a1), some (.inl a2), some (.inl a3), some (.inl a4), some (.inl a5), some (.inl a6), none], [], M) (some r.1, r.2) := by
    unfold dm_102_215 at h
    refine fj_blk 1 (102, 216, [some (.inr (20, 0)), some (.inl a1), some (.inl a2), some (.inl a3), some (.inl a4), some (.inl a5), some (.inl a6), none], [(.inl 0)], M) rfl ?_
    exact de_102_216 X a1 a2 a3 a4 a5 a6 0 M r h
def dm_102_193  (a1 : Int32) (a2 : Int32) (a3 : Int32) (a4 : Int32) (a5 : Int32) (a6 : Int32) (M : fj_M) : Option (Int32 × fj_M) := (if a3 = 42 then ((dm_78 a4 (-1) 511 M).bind fun q2 => (if q2.1 = 0 then dm_102_211 a1 a2 a3 a4 a5 a6 q2.2 else dm_102_215 a1 a2 a3 a4 a5 a6 q2.2)) else dm_102_215 a1 a2 a3 a4 a5 a6 M)
set_option maxRecDepth 40000 in
theorem de_102_193 (X : fj_X) (a1 : Int32) (a2 : Int32) (a3 : Int32) (a4 : Int32) (a5 : Int32) (a6 : Int32) (M : fj_M) (r : (Int32 × fj_M)) (h : dm_102_193 a1 a2 a3 a4 a5 a6 M = some r) : fj_ev X (102, 193, [some (.inr (20, 0)), some (.inl a1), some (.inl a2), some (.inl a3), some (.inl a4), some (.inl a5), some (.inl a6), none], [], M) (some r.1, r.2) := by
    unfold dm_102_193 at h
    refine fj_blk 2 (102, 196, [some (.inr (20, 0)), some (.inl a1), some (.inl a2), some (.inl a3), some (.inl a4), some (.inl a5), some (.inl a6), none], [(.inl 42), (.inl a3)], M) rfl ?_
    by_cases hc1 : a3 = 42
    · rw [if_pos hc1] at h
      refine fj_bf rfl (fj_nf hc1) ?_
      refine fj_blk 3 (102, 205, [some (.inr (20, 0)), some (.inl a1), some (.inl a2), some (.inl a3), some (.inl a4), some (.inl a5), some (.inl a6), none], [(.inl 511), (.inl (-1)), (.inl a4)], M) rfl ?_
      cases hq2 : dm_78 a4 (-1) 511 M with
      | none => rw [hq2] at h; cases h
      | some q2 =>
        rw [hq2, Option.bind_some] at h
        refine fj_cl rfl (de_78 X a4 (-1) 511 M _ hq2) ?_
        by_cases hc3 : q2.1 = 0
        · rw [if_pos hc3] at h
          refine fj_bf rfl (fj_nf hc3) ?_
          exact de_102_211 X a1 a2 a3 a4 a5 a6 q2.2 r h
        · rw [if_neg hc3] at h
          refine fj_bt rfl (fj_nt hc3) ?_
          exact de_102_215 X a1 a2 a3 a4 a5 a6 q2.2 r h
    · rw [if_neg hc1] at h
      refine fj_bt rfl (fj_nt hc1) ?_
      exact de_102_215 X a1 a2 a3 a4 a5 a6 M r h
def dm_102_181  (a1 : Int32) (a2 : Int32) (a3 : Int32) (a4 : Int32) (a5 : Int32) (a6 : Int32) (M : fj_M) : Option (Int32 × fj_M) := ((dm_78 a4 0 511 M).bind fun q1 => (if q1.1 = 0 then dm_102_211 a1 a2 a3 a4 a5 a6 q1.2 else dm_102_193 a1 a2 a3 a4 a5 a6 q1.2))
set_option maxRecDepth 40000 in
theorem de_102_181 (X : fj_X) (a1 : Int32) (a2 : Int32) (a3 : Int32) (a4 : Int32) (a5 : Int32) (a6 : Int32) (M : fj_M) (r : (Int32 × fj_M)) (h : dm_102_181 a1 a2 a3 a4 a5 a6 M = some r) : fj_ev X (102, 181, [some (.inr (20, 0)), some (.inl a1), some (.inl a2), some (.inl a3), some (.inl a4), some (.inl a5), some (.inl a6), none], [], M) (some r.1, r.2) := by
    unfold dm_102_181 at h
    refine fj_blk 3 (102, 187, [some (.inr (20, 0)), some (.inl a1), some (.inl a2), some (.inl a3), some (.inl a4), some (.inl a5), some (.inl a6), none], [(.inl 511), (.inl 0), (.inl a4)], M) rfl ?_
    cases hq1 : dm_78 a4 0 511 M with
    | none => rw [hq1] at h; cases h
    | some q1 =>
      rw [hq1, Option.bind_some] at h
      refine fj_cl rfl (de_78 X a4 0 511 M _ hq1) ?_
      by_cases hc2 : q1.1 = 0
      · rw [if_pos hc2] at h
        refine fj_bt rfl (decide_eq_true hc2) ?_
        exact de_102_211 X a1 a2 a3 a4 a5 a6 q1.2 r h
      · rw [if_neg hc2] at h
        refine fj_bf rfl (decide_eq_false hc2) ?_
        exact de_102_193 X a1 a2 a3 a4 a5 a6 q1.2 r h
def dm_102_164  (a1 : Int32) (a2 : Int32) (a3 : Int32) (a4 : Int32) (a5 : Int32) (a6 : Int32) (M : fj_M) : Option (Int32 × fj_M) := ((dm_78 a3 20 22 M).bind fun q1 => (if q1.1 = 0 then (if a3 = 28 then dm_102_181 a1 a2 a3 a4 a5 a6 q1.2 else dm_102_193 a1 a2 a3 a4 a5 a6 q1.2) else dm_102_181 a1 a2 a3 a4 a5 a6 q1.2))
set_option maxRecDepth 40000 in
theorem de_102_164 (X : fj_X) (a1 : Int32) (a2 : Int32) (a3 : Int32) (a4 : Int32) (a5 : Int32) (a6 : Int32) (M : fj_M) (r : (Int32 × fj_M)) (h : dm_102_164 a1 a2 a3 a4 a5 a6 M = some r) : fj_ev X (102, 164, [some (.inr (20, 0)), some (.inl a1), some (.inl a2), some (.inl a3), some (.inl a4), some (.inl a5), some (.inl a6), none], [], M) (some r.1, r.2) := by
    unfold dm_102_164 at h
    refine fj_blk 3 (102, 169, [some (.inr (20, 0)), some (.inl a1), some (.inl a2), some (.inl a3), some (.inl a4), some (.inl a5), some (.inl a6), none], [(.inl 22), (.inl 20), (.inl a3)], M) rfl ?_
    cases hq1 : dm_78 a3 20 22 M with
    | none => rw [hq1] at h; cases h
    | some q1 =>
      rw [hq1, Option.bind_some] at h
      refine fj_cl rfl (de_78 X a3 20 22 M _ hq1) ?_
      by_cases hc2 : q1.1 = 0
      · rw [if_pos hc2] at h
        refine fj_bf rfl (fj_nf hc2) ?_
        refine fj_blk 2 (102, 178, [some (.inr (20, 0)), some (.inl a1), some (.inl a2), some (.inl a3), some (.inl a4), some (.inl a5), some (.inl a6), none], [(.inl 28), (.inl a3)], q1.2) rfl ?_
        by_cases hc3 : a3 = 28
        · rw [if_pos hc3] at h
          refine fj_bf rfl (fj_nf hc3) ?_
          exact de_102_181 X a1 a2 a3 a4 a5 a6 q1.2 r h
        · rw [if_neg hc3] at h
          refine fj_bt rfl (fj_nt hc3) ?_
          exact de_102_193 X a1 a2 a3 a4 a5 a6 q1.2 r h
      · rw [if_neg hc2] at h
        refine fj_bt rfl (fj_nt hc2) ?_
        exact de_102_181 X a1 a2 a3 a4 a5 a6 q1.2 r h
def dm_102_157  (a1 : Int32) (a2 : Int32) (a3 : Int32) (a4 : Int32) (a5 : Int32) (a6 : Int32) (M : fj_M) : Option (Int32 × fj_M) := (if a5 = 0 then some (4, M) else dm_102_164 a1 a2 a3 a4 a5 a6 M)
set_option maxRecDepth 40000 in
theorem de_102_157 (X : fj_X) (a1 : Int32) (a2 : Int32) (a3 : Int32) (a4 : Int32) (a5 : Int32) (a6 : Int32) (M : fj_M) (r : (Int32 × fj_M)) (h : dm_102_157 a1 a2 a3 a4 a5 a6 M = some r) : fj_ev X (102, 157, [some (.inr (20, 0)), some (.inl a1), some (.inl a2), some (.inl a3), some (.inl a4), some (.inl a5), some (.inl a6), none], [], M) (some r.1, r.2) := by
    unfold dm_102_157 at h
    refine fj_blk 1 (102, 159, [some (.inr (20, 0)), some (.inl a1), some (.inl a2), some (.inl a3), some (.inl a4), some (.inl a5), some (.inl a6), none], [(.inl a5)], M) rfl ?_
    by_cases hc1 : a5 = 0
    · rw [if_pos hc1] at h
      refine fj_bf rfl (fj_nf hc1) ?_
      refine fj_blk 1 (102, 163, [some (.inr (20, 0)), some (.inl a1), some (.inl a2), some (.inl a3), some (.inl a4), some (.inl a5), some (.inl a6), none], [(.inl 4)], M) rfl ?_
      cases h
      exact fj_ri rfl rfl
    · rw [if_neg hc1] at h
      refine fj_bt rfl (fj_nt hc1) ?_
      exact de_102_164 X a1 a2 a3 a4 a5 a6 M r h
def dm_102_145  (a1 : Int32) (a2 : Int32) (a3 : Int32) (a4 : Int32) (a5 : Int32) (a6 : Int32) (M : fj_M) : Option (Int32 × fj_M) := (if a3 = 9 then dm_102_157 a1 a2 a3 a4 a5 a6 M else (if a3 = 10 then dm_102_157 a1 a2 a3 a4 a5 a6 M else dm_102_164 a1 a2 a3 a4 a5 a6 M))
set_option maxRecDepth 40000 in
theorem de_102_145 (X : fj_X) (a1 : Int32) (a2 : Int32) (a3 : Int32) (a4 : Int32) (a5 : Int32) (a6 : Int32) (M : fj_M) (r : (Int32 × fj_M)) (h : dm_102_145 a1 a2 a3 a4 a5 a6 M = some r) : fj_ev X (102, 145, [some (.inr (20, 0)), some (.inl a1), some (.inl a2), some (.inl a3), some (.inl a4), some (.inl a5), some (.inl a6), none], [], M) (some r.1, r.2) := by
    unfold dm_102_145 at h
    refine fj_blk 2 (102, 148, [some (.inr (20, 0)), some (.inl a1), some (.inl a2), some (.inl a3), some (.inl a4), some (.inl a5), some (.inl a6), none], [(.inl 9), (.inl a3)], M) rfl ?_
    by_cases hc1 : a3 = 9
    · rw [if_pos hc1] at h
      refine fj_bt rfl (decide_eq_true hc1) ?_
      exact de_102_157 X a1 a2 a3 a4 a5 a6 M r h
    · rw [if_neg hc1] at h
      refine fj_bf rfl (decide_eq_false hc1) ?_
      refine fj_blk 2 (102, 154, [some (.inr (20, 0)), some (.inl a1), some (.inl a2), some (.inl a3), some (.inl a4), some (.inl a5), some (.inl a6), none], [(.inl 10), (.inl a3)], M) rfl ?_
      by_cases hc2 : a3 = 10
      · rw [if_pos hc2] at h
        refine fj_bf rfl (fj_nf hc2) ?_
        exact de_102_157 X a1 a2 a3 a4 a5 a6 M r h
      · rw [if_neg hc2] at h
        refine fj_bt rfl (fj_nt hc2) ?_
        exact de_102_164 X a1 a2 a3 a4 a5 a6 M r h
def dm_102_117  (a1 : Int32) (a2 : Int32) (a3 : Int32) (a4 : Int32) (a5 : Int32) (s0 : Int32) (M : fj_M) : Option (Int32 × fj_M) := (if a3 = 45 then (if a5 < 0 then some (2, M) else (if a1 < 0 ∨ 12 ≤ a1.toNatClampNeg then none else (if a5 ≤ ((M.2 25 0 a1.toNatClampNeg) - 2) then dm_102_145 a1 a2 a3 a4 a5 s0 M else some (2, M)))) else dm_102_145 a1 a2 a3 a4 a5 s0 M)
set_option maxRecDepth 40000 in
theorem de_102_117 (X : fj_X) (a1 : Int32) (a2 : Int32) (a3 : Int32) (a4 : Int32) (a5 : Int32) (s0 : Int32) (M : fj_M) (r : (Int32 × fj_M)) (h : dm_102_117 a1 a2 a3 a4 a5 s0 M = some r) : fj_ev X (102, 117, [some (.inr (20, 0)), some (.inl a1), some (.inl a2), some (.inl a3), some (.inl a4), some (.inl a5), none, none], [(.inl s0)], M) (some r.1, r.2) := by
    unfold dm_102_117 at h
    refine fj_blk 3 (102, 122, [some (.inr (20, 0)), some (.inl a1), some (.inl a2), some (.inl a3), some (.inl a4), some (.inl a5), some (.inl s0), none], [(.inl 45), (.inl a3)], M) rfl ?_
    by_cases hc1 : a3 = 45
    · rw [if_pos hc1] at h
      refine fj_bf rfl (fj_nf hc1) ?_
      refine fj_blk 1 (102, 127, [some (.inr (20, 0)), some (.inl a1), some (.inl a2), some (.inl a3), some (.inl a4), some (.inl a5), some (.inl s0), none], [(.inl a5)], M) rfl ?_
      by_cases hc2 : a5 < 0
      · rw [if_pos hc2] at h
        refine fj_bt rfl (decide_eq_true hc2) ?_
        refine fj_blk 1 (102, 144, [some (.inr (20, 0)), some (.inl a1), some (.inl a2), some (.inl a3), some (.inl a4), some (.inl a5), some (.inl s0), none], [(.inl 2)], M) rfl ?_
        cases h
        exact fj_ri rfl rfl
      · rw [if_neg hc2] at h
        refine fj_bf rfl (decide_eq_false hc2) ?_
        refine fj_blk 4 (102, 137, [some (.inr (20, 0)), some (.inl a1), some (.inl a2), some (.inl a3), some (.inl a4), some (.inl a5), some (.inl s0), none], [(.inl a1), (.inr (25, 0)), (.inl a5)], M) rfl ?_
        by_cases hc3 : a1 < 0 ∨ 12 ≤ a1.toNatClampNeg
        · rw [if_pos hc3] at h
          cases h
        rw [if_neg hc3] at h
        refine fj_ald rfl rfl hc3 ?_
        refine fj_blk 2 (102, 140, [some (.inr (20, 0)), some (.inl a1), some (.inl a2), some (.inl a3), some (.inl a4), some (.inl a5), some (.inl s0), none], [(.inl ((M.2 25 0 a1.toNatClampNeg) - 2)), (.inl a5)], M) rfl ?_
        by_cases hc4 : a5 ≤ ((M.2 25 0 a1.toNatClampNeg) - 2)
        · rw [if_pos hc4] at h
          refine fj_bt rfl (decide_eq_true hc4) ?_
          exact de_102_145 X a1 a2 a3 a4 a5 s0 M r h
        · rw [if_neg hc4] at h
          refine fj_bf rfl (decide_eq_false hc4) ?_
          refine fj_blk 1 (102, 144, [some (.inr (20, 0)), some (.inl a1), some (.inl a2), some (.inl a3), some (.inl a4), some (.inl a5), some (.inl s0), none], [(.inl 2)], M) rfl ?_
          cases h
          exact fj_ri rfl rfl
    · rw [if_neg hc1] at h
      refine fj_bt rfl (fj_nt hc1) ?_
      exact de_102_145 X a1 a2 a3 a4 a5 s0 M r h
def dm_102_97  (a1 : Int32) (a2 : Int32) (a3 : Int32) (a4 : Int32) (s0 : Int32) (M : fj_M) : Option (Int32 × fj_M) := ((dm_99 a3 M).bind fun q1 => (if q1.1 ≤ 1 then dm_102_117 a1 a2 a3 a4 s0 0 q1.2 else ((dm_100 a1 1 q1.2).bind fun q3 => dm_102_117 a1 a2 a3 a4 s0 q3.1 q3.2)))
set_option maxRecDepth 40000 in
theorem de_102_97 (X : fj_X) (a1 : Int32) (a2 : Int32) (a3 : Int32) (a4 : Int32) (s0 : Int32) (M : fj_M) (r : (Int32 × fj_M)) (h : dm_102_97 a1 a2 a3 a4 s0 M = some r) : fj_ev X (102, 97, [some (.inr (20, 0)), some (.inl a1), some (.inl a2), some (.inl a3), some (.inl a4), none, none, none], [(.inl s0)], M) (some r.1, r.2) := by
    unfold dm_102_97 at h
    refine fj_blk 2 (102, 100, [some (.inr (20, 0)), some (.inl a1), some (.inl a2), some (.inl a3), some (.inl a4), some (.inl s0), none, none], [(.inl a3)], M) rfl ?_
    cases hq1 : dm_99 a3 M with
    | none => rw [hq1] at h; cases h
    | some q1 =>
      rw [hq1, Option.bind_some] at h
      refine fj_cl rfl (de_99 X a3 M _ hq1) ?_
      refine fj_blk 1 (102, 104, [some (.inr (20, 0)), some (.inl a1), some (.inl a2), some (.inl a3), some (.inl a4), some (.inl s0), none, none], [(.inl 1), (.inl q1.1)], q1.2) rfl ?_
      by_cases hc2 : q1.1 ≤ 1
      · rw [if_pos hc2] at h
        refine fj_bt rfl (decide_eq_true hc2) ?_
        refine fj_blk 1 (102, 117, [some (.inr (20, 0)), some (.inl a1), some (.inl a2), some (.inl a3), some (.inl a4), some (.inl s0), none, none], [(.inl 0)], q1.2) rfl ?_
        exact de_102_117 X a1 a2 a3 a4 s0 0 q1.2 r h
      · rw [if_neg hc2] at h
        refine fj_bf rfl (decide_eq_false hc2) ?_
        refine fj_blk 3 (102, 110, [some (.inr (20, 0)), some (.inl a1), some (.inl a2), some (.inl a3), some (.inl a4), some (.inl s0), none, none], [(.inl 1), (.inl a1), (.inr (20, 0))], q1.2) rfl ?_
        cases hq3 : dm_100 a1 1 q1.2 with
        | none => rw [hq3] at h; cases h
        | some q3 =>
          rw [hq3, Option.bind_some] at h
          refine fj_cl rfl (de_100 X a1 1 q1.2 _ hq3) ?_
          refine fj_blk 1 (102, 117, [some (.inr (20, 0)), some (.inl a1), some (.inl a2), some (.inl a3), some (.inl a4), some (.inl s0), none, none], [(.inl q3.1)], q3.2) rfl ?_
          exact de_102_117 X a1 a2 a3 a4 s0 q3.1 q3.2 r h
def dm_102_80  (a1 : Int32) (a2 : Int32) (a3 : Int32) (a4 : Int32) (M : fj_M) : Option (Int32 × fj_M) := ((dm_99 a3 M).bind fun q1 => (if q1.1 ≤ 0 then dm_102_97 a1 a2 a3 a4 0 q1.2 else ((dm_100 a1 0 q1.2).bind fun q3 => dm_102_97 a1 a2 a3 a4 q3.1 q3.2)))
set_option maxRecDepth 40000 in
theorem de_102_80 (X : fj_X) (a1 : Int32) (a2 : Int32) (a3 : Int32) (a4 : Int32) (M : fj_M) (r : (Int32 × fj_M)) (h : dm_102_80 a1 a2 a3 a4 M = some r) : fj_ev X (102, 80, [some (.inr (20, 0)), some (.inl a1), some (.inl a2), some (.inl a3), some (.inl a4), none, none, none], [], M) (some r.1, r.2) := by
    unfold dm_102_80 at h
    refine fj_blk 1 (102, 81, [some (.inr (20, 0)), some (.inl a1), some (.inl a2), some (.inl a3), some (.inl a4), none, none, none], [(.inl a3)], M) rfl ?_
    cases hq1 : dm_99 a3 M with
    | none => rw [hq1] at h; cases h
    | some q1 =>
      rw [hq1, Option.bind_some] at h
      refine fj_cl rfl (de_99 X a3 M _ hq1) ?_
      by_cases hc2 : q1.1 ≤ 0
      · rw [if_pos hc2] at h
        refine fj_bt rfl (decide_eq_true hc2) ?_
        refine fj_blk 1 (102, 97, [some (.inr (20, 0)), some (.inl a1), some (.inl a2), some (.inl a3), some (.inl a4), none, none, none], [(.inl 0)], q1.2) rfl ?_
        exact de_102_97 X a1 a2 a3 a4 0 q1.2 r h
      · rw [if_neg hc2] at h
        refine fj_bf rfl (decide_eq_false hc2) ?_
        refine fj_blk 3 (102, 90, [some (.inr (20, 0)), some (.inl a1), some (.inl a2), some (.inl a3), some (.inl a4), none, none, none], [(.inl 0), (.inl a1), (.inr (20, 0))], q1.2) rfl ?_
        cases hq3 : dm_100 a1 0 q1.2 with
        | none => rw [hq3] at h; cases h
        | some q3 =>
          rw [hq3, Option.bind_some] at h
          refine fj_cl rfl (de_100 X a1 0 q1.2 _ hq3) ?_
          refine fj_blk 1 (102, 97, [some (.inr (20, 0)), some (.inl a1), some (.inl a2), some (.inl a3), some (.inl a4), none, none, none], [(.inl q3.1)], q3.2) rfl ?_
          exact de_102_97 X a1 a2 a3 a4 q3.1 q3.2 r h
/-- X6_work -/
def dm_102 (a1 : Int32) (M : fj_M) : Option (Int32 × fj_M) := (if a1 < 0 ∨ 12 ≤ a1.toNatClampNeg then none else ((dm_78 (M.2 24 0 a1.toNatClampNeg) 0 511 M).bind fun q2 => (if q2.1 = 0 then some (1, q2.2) else (if (M.2 24 0 a1.toNatClampNeg) < 0 ∨ 512 ≤ (M.2 24 0 a1.toNatClampNeg).toNatClampNeg then none else (if (M.2 24 0 a1.toNatClampNeg) < 0 ∨ 512 ≤ (M.2 24 0 a1.toNatClampNeg).toNatClampNeg then none else (if ((q2.2.2 21 0 ((M.2 24 0 a1.toNatClampNeg).toNatClampNeg)) &&& 255) ≤ 45 then (if a1 < 0 ∨ 12 ≤ a1.toNatClampNeg then none else ((dm_99 ((q2.2.2 21 0 ((M.2 24 0 a1.toNatClampNeg).toNatClampNeg)) &&& 255) q2.2).bind fun q8 => (if (q2.2.2 25 0 a1.toNatClampNeg) < q8.1 then some (2, q8.2) else (if ((q2.2.2 21 0 ((M.2 24 0 a1.toNatClampNeg).toNatClampNeg)) &&& 255) = 23 then (if a1 < 0 ∨ 12 ≤ a1.toNatClampNeg then none else (if (q8.2.2 27 0 a1.toNatClampNeg) = 0 then some (2, q8.2) else dm_102_80 a1 (M.2 24 0 a1.toNatClampNeg) ((q2.2.2 21 0 ((M.2 24 0 a1.toNatClampNeg).toNatClampNeg)) &&& 255) ((q2.2.2 21 0 ((M.2 24 0 a1.toNatClampNeg).toNatClampNeg)) >>> (8 &&& 31)) q8.2)) else dm_102_80 a1 (M.2 24 0 a1.toNatClampNeg) ((q2.2.2 21 0 ((M.2 24 0 a1.toNatClampNeg).toNatClampNeg)) &&& 255) ((q2.2.2 21 0 ((M.2 24 0 a1.toNatClampNeg).toNatClampNeg)) >>> (8 &&& 31)) q8.2)))) else some (1, q2.2)))))))
set_option maxRecDepth 40000 in
theorem de_102 (X : fj_X) (a1 : Int32) (M : fj_M) (r : (Int32 × fj_M)) (h : dm_102 a1 M = some r) : fj_ev X (102, 0, [some (.inr (20, 0)), some (.inl a1), none, none, none, none, none, none], [], M) (some r.1, r.2) := by
    unfold dm_102 at h
    refine fj_blk 3 (102, 5, [some (.inr (20, 0)), some (.inl a1), none, none, none, none, none, none], [(.inl a1), (.inr (24, 0))], M) rfl ?_
    by_cases hc1 : a1 < 0 ∨ 12 ≤ a1.toNatClampNeg
    · rw [if_pos hc1] at h
      cases h
    rw [if_neg hc1] at h
    refine fj_ald rfl rfl hc1 ?_
    refine fj_blk 4 (102, 12, [some (.inr (20, 0)), some (.inl a1), some (.inl (M.2 24 0 a1.toNatClampNeg)), none, none, none, none, none], [(.inl 511), (.inl 0), (.inl (M.2 24 0 a1.toNatClampNeg))], M) rfl ?_
    cases hq2 : dm_78 (M.2 24 0 a1.toNatClampNeg) 0 511 M with
    | none => rw [hq2] at h; cases h
    | some q2 =>
      rw [hq2, Option.bind_some] at h
      refine fj_cl rfl (de_78 X (M.2 24 0 a1.toNatClampNeg) 0 511 M _ hq2) ?_
      by_cases hc3 : q2.1 = 0
      · rw [if_pos hc3] at h
        refine fj_bf rfl (fj_nf hc3) ?_
        refine fj_blk 1 (102, 19, [some (.inr (20, 0)), some (.inl a1), some (.inl (M.2 24 0 a1.toNatClampNeg)), none, none, none, none, none], [(.inl 1)], q2.2) rfl ?_
        cases h
        exact fj_ri rfl rfl
      · rw [if_neg hc3] at h
        refine fj_bt rfl (fj_nt hc3) ?_
        refine fj_blk 3 (102, 25, [some (.inr (20, 0)), some (.inl a1), some (.inl (M.2 24 0 a1.toNatClampNeg)), none, none, none, none, none], [(.inl (M.2 24 0 a1.toNatClampNeg)), (.inr (21, 0))], q2.2) rfl ?_
        by_cases hc4 : (M.2 24 0 a1.toNatClampNeg) < 0 ∨ 512 ≤ (M.2 24 0 a1.toNatClampNeg).toNatClampNeg
        · rw [if_pos hc4] at h
          cases h
        rw [if_neg hc4] at h
        refine fj_ald rfl rfl hc4 ?_
        refine fj_blk 6 (102, 36, [some (.inr (20, 0)), some (.inl a1), some (.inl (M.2 24 0 a1.toNatClampNeg)), some (.inl ((q2.2.2 21 0 ((M.2 24 0 a1.toNatClampNeg).toNatClampNeg)) &&& 255)), none, none, none, none], [(.inl (M.2 24 0 a1.toNatClampNeg)), (.inr (21, 0))], q2.2) rfl ?_
        by_cases hc5 : (M.2 24 0 a1.toNatClampNeg) < 0 ∨ 512 ≤ (M.2 24 0 a1.toNatClampNeg).toNatClampNeg
        · rw [if_pos hc5] at h
          cases h
        rw [if_neg hc5] at h
        refine fj_ald rfl rfl hc5 ?_
        refine fj_blk 5 (102, 45, [some (.inr (20, 0)), some (.inl a1), some (.inl (M.2 24 0 a1.toNatClampNeg)), some (.inl ((q2.2.2 21 0 ((M.2 24 0 a1.toNatClampNeg).toNatClampNeg)) &&& 255)), some (.inl ((q2.2.2 21 0 ((M.2 24 0 a1.toNatClampNeg).toNatClampNeg)) >>> (8 &&& 31))), none, none, none], [(.inl 45), (.inl ((q2.2.2 21 0 ((M.2 24 0 a1.toNatClampNeg).toNatClampNeg)) &&& 255))], q2.2) rfl ?_
        by_cases hc6 : ((q2.2.2 21 0 ((M.2 24 0 a1.toNatClampNeg).toNatClampNeg)) &&& 255) ≤ 45
        · rw [if_pos hc6] at h
          refine fj_bt rfl (decide_eq_true hc6) ?_
          refine fj_blk 3 (102, 55, [some (.inr (20, 0)), some (.inl a1), some (.inl (M.2 24 0 a1.toNatClampNeg)), some (.inl ((q2.2.2 21 0 ((M.2 24 0 a1.toNatClampNeg).toNatClampNeg)) &&& 255)), some (.inl ((q2.2.2 21 0 ((M.2 24 0 a1.toNatClampNeg).toNatClampNeg)) >>> (8 &&& 31))), none, none, none], [(.inl a1), (.inr (25, 0))], q2.2) rfl ?_
          by_cases hc7 : a1 < 0 ∨ 12 ≤ a1.toNatClampNeg
          · rw [if_pos hc7] at h
            cases h
          rw [if_neg hc7] at h
          refine fj_ald rfl rfl hc7 ?_
          refine fj_blk 1 (102, 57, [some (.inr (20, 0)), some (.inl a1), some (.inl (M.2 24 0 a1.toNatClampNeg)), some (.inl ((q2.2.2 21 0 ((M.2 24 0 a1.toNatClampNeg).toNatClampNeg)) &&& 255)), some (.inl ((q2.2.2 21 0 ((M.2 24 0 a1.toNatClampNeg).toNatClampNeg)) >>> (8 &&& 31))), none, none, none], [(.inl ((q2.2.2 21 0 ((M.2 24 0 a1.toNatClampNeg).toNatClampNeg)) &&& 255)), (.inl (q2.2.2 25 0 a1.toNatClampNeg))], q2.2) rfl ?_
          cases hq8 : dm_99 ((q2.2.2 21 0 ((M.2 24 0 a1.toNatClampNeg).toNatClampNeg)) &&& 255) q2.2 with
          | none => rw [hq8] at h; cases h
          | some q8 =>
            rw [hq8, Option.bind_some] at h
            refine fj_cl rfl (de_99 X ((q2.2.2 21 0 ((M.2 24 0 a1.toNatClampNeg).toNatClampNeg)) &&& 255) q2.2 _ hq8) ?_
            by_cases hc9 : (q2.2.2 25 0 a1.toNatClampNeg) < q8.1
            · rw [if_pos hc9] at h
              refine fj_bt rfl (decide_eq_true hc9) ?_
              refine fj_blk 1 (102, 79, [some (.inr (20, 0)), some (.inl a1), some (.inl (M.2 24 0 a1.toNatClampNeg)), some (.inl ((q2.2.2 21 0 ((M.2 24 0 a1.toNatClampNeg).toNatClampNeg)) &&& 255)), some (.inl ((q2.2.2 21 0 ((M.2 24 0 a1.toNatClampNeg).toNatClampNeg)) >>> (8 &&& 31))), none, none, none], [(.inl 2)], q8.2) rfl ?_
              cases h
              exact fj_ri rfl rfl
            · rw [if_neg hc9] at h
              refine fj_bf rfl (decide_eq_false hc9) ?_
              refine fj_blk 2 (102, 66, [some (.inr (20, 0)), some (.inl a1), some (.inl (M.2 24 0 a1.toNatClampNeg)), some (.inl ((q2.2.2 21 0 ((M.2 24 0 a1.toNatClampNeg).toNatClampNeg)) &&& 255)), some (.inl ((q2.2.2 21 0 ((M.2 24 0 a1.toNatClampNeg).toNatClampNeg)) >>> (8 &&& 31))), none, none, none], [(.inl 23), (.inl ((q2.2.2 21 0 ((M.2 24 0 a1.toNatClampNeg).toNatClampNeg)) &&& 255))], q8.2) rfl ?_
              by_cases hc10 : ((q2.2.2 21 0 ((M.2 24 0 a1.toNatClampNeg).toNatClampNeg)) &&& 255) = 23
              · rw [if_pos hc10] at h
                refine fj_bf rfl (fj_nf hc10) ?_
                refine fj_blk 3 (102, 74, [some (.inr (20, 0)), some (.inl a1), some (.inl (M.2 24 0 a1.toNatClampNeg)), some (.inl ((q2.2.2 21 0 ((M.2 24 0 a1.toNatClampNeg).toNatClampNeg)) &&& 255)), some (.inl ((q2.2.2 21 0 ((M.2 24 0 a1.toNatClampNeg).toNatClampNeg)) >>> (8 &&& 31))), none, none, none], [(.inl a1), (.inr (27, 0))], q8.2) rfl ?_
                by_cases hc11 : a1 < 0 ∨ 12 ≤ a1.toNatClampNeg
                · rw [if_pos hc11] at h
                  cases h
                rw [if_neg hc11] at h
                refine fj_ald rfl rfl hc11 ?_
                by_cases hc12 : (q8.2.2 27 0 a1.toNatClampNeg) = 0
                · rw [if_pos hc12] at h
                  refine fj_bf rfl (fj_nf hc12) ?_
                  refine fj_blk 1 (102, 79, [some (.inr (20, 0)), some (.inl a1), some (.inl (M.2 24 0 a1.toNatClampNeg)), some (.inl ((q2.2.2 21 0 ((M.2 24 0 a1.toNatClampNeg).toNatClampNeg)) &&& 255)), some (.inl ((q2.2.2 21 0 ((M.2 24 0 a1.toNatClampNeg).toNatClampNeg)) >>> (8 &&& 31))), none, none, none], [(.inl 2)], q8.2) rfl ?_
                  cases h
                  exact fj_ri rfl rfl
                · rw [if_neg hc12] at h
                  refine fj_bt rfl (fj_nt hc12) ?_
                  exact de_102_80 X a1 (M.2 24 0 a1.toNatClampNeg) ((q2.2.2 21 0 ((M.2 24 0 a1.toNatClampNeg).toNatClampNeg)) &&& 255) ((q2.2.2 21 0 ((M.2 24 0 a1.toNatClampNeg).toNatClampNeg)) >>> (8 &&& 31)) q8.2 r h
              · rw [if_neg hc10] at h
                refine fj_bt rfl (fj_nt hc10) ?_
                exact de_102_80 X a1 (M.2 24 0 a1.toNatClampNeg) ((q2.2.2 21 0 ((M.2 24 0 a1.toNatClampNeg).toNatClampNeg)) &&& 255) ((q2.2.2 21 0 ((M.2 24 0 a1.toNatClampNeg).toNatClampNeg)) >>> (8 &&& 31)) q8.2 r h
        · rw [if_neg hc6] at h
          refine fj_bf rfl (decide_eq_false hc6) ?_
          refine fj_blk 1 (102, 49, [some (.inr (20, 0)), some (.inl a1), some (.inl (M.2 24 0 a1.toNatClampNeg)), some (.inl ((q2.2.2 21 0 ((M.2 24 0 a1.toNatClampNeg).toNatClampNeg)) &&& 255)), some (.inl ((q2.2.2 21 0 ((M.2 24 0 a1.toNatClampNeg).toNatClampNeg)) >>> (8 &&& 31))), none, none, none], [(.inl 1)], q2.2) rfl ?_
          cases h
          exact fj_ri rfl rfl
def dm_97_258  (a1 : Int32) (a2 : Int32) (a3 : Int32) (a4 : Int32) (M : fj_M) : Option (Int32 × fj_M) := ((dm_95 M).bind fun q1 => ((dm_93 (q1.1, (fj_u1 q1.2 20 0 19 ((q1.2 20 0 19) + 1)))).bind fun q2 => some (0, (q2.1, (fj_u1 q2.2 20 0 23 0)))))
set_option maxRecDepth 40000 in
theorem de_97_258 (X : fj_X) (a1 : Int32) (a2 : Int32) (a3 : Int32) (a4 : Int32) (M : fj_M) (r : (Int32 × fj_M)) (h : dm_97_258 a1 a2 a3 a4 M = some r) : fj_ev X (97, 258, [some (.inr (20, 0)), some (.inl a1), some (.inl a2), some (.inl a3), some (.inl a4)], [], M) (some r.1, r.2) := by
    unfold dm_97_258 at h
    refine fj_blk 1 (97, 259, [some (.inr (20, 0)), some (.inl a1), some (.inl a2), some (.inl a3), some (.inl a4)], [(.inr (20, 0))], M) rfl ?_
    cases hq1 : dm_95 M with
    | none => rw [hq1] at h; cases h
    | some q1 =>
      rw [hq1, Option.bind_some] at h
      refine fj_cl rfl (de_95 X M _ hq1) ?_
      refine fj_blk 7 (97, 273, [some (.inr (20, 0)), some (.inl a1), some (.inl a2), some (.inl a3), some (.inl a4)], [(.inr (20, 0))], (q1.1, (fj_u1 q1.2 20 0 19 ((q1.2 20 0 19) + 1)))) rfl ?_
      cases hq2 : dm_93 (q1.1, (fj_u1 q1.2 20 0 19 ((q1.2 20 0 19) + 1))) with
      | none => rw [hq2] at h; cases h
      | some q2 =>
        rw [hq2, Option.bind_some] at h
        refine fj_cl rfl (de_93 X (q1.1, (fj_u1 q1.2 20 0 19 ((q1.2 20 0 19) + 1))) _ hq2) ?_
        refine fj_blk 4 (97, 282, [some (.inr (20, 0)), some (.inl a1), some (.inl a2), some (.inl a3), some (.inl a4)], [(.inl 0)], (q2.1, (fj_u1 q2.2 20 0 23 0))) rfl ?_
        cases h
        exact fj_ri rfl rfl
def dm_97_209  (a1 : Int32) (a2 : Int32) (a3 : Int32) (s0 : Int32) (M : fj_M) : Option (Int32 × fj_M) := ((dm_102 ((fj_u1 (fj_u1 (fj_u1 (fj_u1 M.2 20 0 21 s0) 20 0 20 a3) 20 0 21 (((fj_u1 (fj_u1 M.2 20 0 21 s0) 20 0 20 a3) 20 0 21) - 1)) 20 0 27 0) 20 0 20) (M.1, (fj_u1 (fj_u1 (fj_u1 (fj_u1 M.2 20 0 21 s0) 20 0 20 a3) 20 0 21 (((fj_u1 (fj_u1 M.2 20 0 21 s0) 20 0 20 a3) 20 0 21) - 1)) 20 0 27 0))).bind fun q1 => (if q1.1 ≤ 0 then dm_97_258 a1 a2 a3 q1.1 q1.2 else ((dm_94 (q1.2.2 20 0 20) q1.1 1 q1.2).bind fun q3 => dm_97_258 a1 a2 a3 q1.1 q3)))
set_option maxRecDepth 40000 in
theorem de_97_209 (X : fj_X) (a1 : Int32) (a2 : Int32) (a3 : Int32) (s0 : Int32) (M : fj_M) (r : (Int32 × fj_M)) (h : dm_97_209 a1 a2 a3 s0 M = some r) : fj_ev X (97, 209, [some (.inr (20, 0)), some (.inl a1), some (.inl a2), some (.inl a3), none], [(.inl s0), (.inr (20, 0))], M) (some r.1, r.2) := by
    unfold dm_97_209 at h
    refine fj_blk 16 (97, 237, [some (.inr (20, 0)), some (.inl a1), some (.inl a2), some (.inl a3), none], [(.inl ((fj_u1 (fj_u1 (fj_u1 (fj_u1 M.2 20 0 21 s0) 20 0 20 a3) 20 0 21 (((fj_u1 (fj_u1 M.2 20 0 21 s0) 20 0 20 a3) 20 0 21) - 1)) 20 0 27 0) 20 0 20)), (.inr (20, 0))], (M.1, (fj_u1 (fj_u1 (fj_u1 (fj_u1 M.2 20 0 21 s0) 20 0 20 a3) 20 0 21 (((fj_u1 (fj_u1 M.2 20 0 21 s0) 20 0 20 a3) 20 0 21) - 1)) 20 0 27 0))) rfl ?_
    cases hq1 : dm_102 ((fj_u1 (fj_u1 (fj_u1 (fj_u1 M.2 20 0 21 s0) 20 0 20 a3) 20 0 21 (((fj_u1 (fj_u1 M.2 20 0 21 s0) 20 0 20 a3) 20 0 21) - 1)) 20 0 27 0) 20 0 20) (M.1, (fj_u1 (fj_u1 (fj_u1 (fj_u1 M.2 20 0 21 s0) 20 0 20 a3) 20 0 21 (((fj_u1 (fj_u1 M.2 20 0 21 s0) 20 0 20 a3) 20 0 21) - 1)) 20 0 27 0)) with
    | none => rw [hq1] at h; cases h
    | some q1 =>
      rw [hq1, Option.bind_some] at h
      refine fj_cl rfl (de_102 X ((fj_u1 (fj_u1 (fj_u1 (fj_u1 M.2 20 0 21 s0) 20 0 20 a3) 20 0 21 (((fj_u1 (fj_u1 M.2 20 0 21 s0) 20 0 20 a3) 20 0 21) - 1)) 20 0 27 0) 20 0 20) (M.1, (fj_u1 (fj_u1 (fj_u1 (fj_u1 M.2 20 0 21 s0) 20 0 20 a3) 20 0 21 (((fj_u1 (fj_u1 M.2 20 0 21 s0) 20 0 20 a3) 20 0 21) - 1)) 20 0 27 0)) _ hq1) ?_
      refine fj_blk 2 (97, 244, [some (.inr (20, 0)), some (.inl a1), some (.inl a2), some (.inl a3), some (.inl q1.1)], [(.inl q1.1)], q1.2) rfl ?_
      by_cases hc2 : q1.1 ≤ 0
      · rw [if_pos hc2] at h
        refine fj_bt rfl (decide_eq_true hc2) ?_
        exact de_97_258 X a1 a2 a3 q1.1 q1.2 r h
      · rw [if_neg hc2] at h
        refine fj_bf rfl (decide_eq_false hc2) ?_
        refine fj_blk 5 (97, 255, [some (.inr (20, 0)), some (.inl a1), some (.inl a2), some (.inl a3), some (.inl q1.1)], [(.inl 1), (.inl q1.1), (.inl (q1.2.2 20 0 20)), (.inr (20, 0))], q1.2) rfl ?_
        cases hq3 : dm_94 (q1.2.2 20 0 20) q1.1 1 q1.2 with
        | none => rw [hq3] at h; cases h
        | some q3 =>
          rw [hq3, Option.bind_some] at h
          refine fj_cl rfl (de_94 X (q1.2.2 20 0 20) q1.1 1 q1.2 _ hq3) ?_
          exact de_97_258 X a1 a2 a3 q1.1 q3 r h
def dm_97_205  (a1 : Int32) (a2 : Int32) (a3 : Int32) (M : fj_M) : Option (Int32 × fj_M) := dm_97_209 a1 a2 a3 (M.2 20 0 22) M
set_option maxRecDepth 40000 in
theorem de_97_205 (X : fj_X) (a1 : Int32) (a2 : Int32) (a3 : Int32) (M : fj_M) (r : (Int32 × fj_M)) (h : dm_97_205 a1 a2 a3 M = some r) : fj_ev X (97, 205, [some (.inr (20, 0)), some (.inl a1), some (.inl a2), some (.inl a3), none], [(.inr (20, 0))], M) (some r.1, r.2) := by
    unfold dm_97_205 at h
    refine fj_blk 2 (97, 209, [some (.inr (20, 0)), some (.inl a1), some (.inl a2), some (.inl a3), none], [(.inl (M.2 20 0 22)), (.inr (20, 0))], M) rfl ?_
    exact de_97_209 X a1 a2 a3 (M.2 20 0 22) M r h
def dm_97_147  (a1 : Int32) (a2 : Int32) (a3 : Int32) (s0 : Int32) (M : fj_M) : Option (Int32 × fj_M) := (if ((fj_u1 M.2 20 0 23 s0) 20 0 23) = 1 then some ((fj_u1 (fj_u1 M.2 20 0 23 s0) 20 0 19 (((fj_u1 M.2 20 0 23 s0) 20 0 19) + 1)) 20 0 23, (M.1, (fj_u1 (fj_u1 M.2 20 0 23 s0) 20 0 19 (((fj_u1 M.2 20 0 23 s0) 20 0 19) + 1)))) else some ((fj_u1 (fj_u1 M.2 20 0 23 s0) 20 0 19 (((fj_u1 M.2 20 0 23 s0) 20 0 19) + 0)) 20 0 23, (M.1, (fj_u1 (fj_u1 M.2 20 0 23 s0) 20 0 19 (((fj_u1 M.2 20 0 23 s0) 20 0 19) + 0)))))
set_option maxRecDepth 40000 in
theorem de_97_147 (X : fj_X) (a1 : Int32) (a2 : Int32) (a3 : Int32) (s0 : Int32) (M : fj_M) (r : (Int32 × fj_M)) (h : dm_97_147 a1 a2 a3 s0 M = some r) : fj_ev X (97, 147, [some (.inr (20, 0)), some (.inl a1), some (.inl a2), some (.inl a3), none], [(.inl s0), (.inr (20, 0))], M) (some r.1, r.2) := by
    unfold dm_97_147 at h
    refine fj_blk 7 (97, 160, [some (.inr (20, 0)), some (.inl a1), some (.inl a2), some (.inl a3), none], [(.inl 1), (.inl ((fj_u1 M.2 20 0 23 s0) 20 0 23)), (.inl ((fj_u1 M.2 20 0 23 s0) 20 0 19)), (.inr (20, 0))], (M.1, (fj_u1 M.2 20 0 23 s0))) rfl ?_
    by_cases hc1 : ((fj_u1 M.2 20 0 23 s0) 20 0 23) = 1
    · rw [if_pos hc1] at h
      refine fj_bf rfl (fj_nf hc1) ?_
      refine fj_blk 6 (97, 176, [some (.inr (20, 0)), some (.inl a1), some (.inl a2), some (.inl a3), none], [(.inl ((fj_u1 (fj_u1 M.2 20 0 23 s0) 20 0 19 (((fj_u1 M.2 20 0 23 s0) 20 0 19) + 1)) 20 0 23))], (M.1, (fj_u1 (fj_u1 M.2 20 0 23 s0) 20 0 19 (((fj_u1 M.2 20 0 23 s0) 20 0 19) + 1)))) rfl ?_
      cases h
      exact fj_ri rfl rfl
    · rw [if_neg hc1] at h
      refine fj_bt rfl (fj_nt hc1) ?_
      refine fj_blk 5 (97, 176, [some (.inr (20, 0)), some (.inl a1), some (.inl a2), some (.inl a3), none], [(.inl ((fj_u1 (fj_u1 M.2 20 0 23 s0) 20 0 19 (((fj_u1 M.2 20 0 23 s0) 20 0 19) + 0)) 20 0 23))], (M.1, (fj_u1 (fj_u1 M.2 20 0 23 s0) 20 0 19 (((fj_u1 M.2 20 0 23 s0) 20 0 19) + 0)))) rfl ?_
      cases h
      exact fj_ri rfl rfl
def dm_97_124  (a1 : Int32) (a2 : Int32) (a3 : Int32) (s0 : Int32) (M : fj_M) : Option (Int32 × fj_M) := (if 0 ≤ s0 then (if (M.2 20 0 21) ≤ 0 then dm_97_205 a1 a2 s0 M else (if (M.2 20 0 20) < 0 ∨ 12 ≤ (M.2 20 0 20).toNatClampNeg then none else (if (M.2 23 0 ((M.2 20 0 20).toNatClampNeg)) = 1 then dm_97_209 a1 a2 s0 (M.2 20 0 21) M else dm_97_205 a1 a2 s0 M))) else (if a1 = 0 then dm_97_147 a1 a2 s0 2 M else (if a2 = 0 then dm_97_147 a1 a2 s0 3 M else dm_97_147 a1 a2 s0 1 M)))
set_option maxRecDepth 40000 in
theorem de_97_124 (X : fj_X) (a1 : Int32) (a2 : Int32) (a3 : Int32) (s0 : Int32) (M : fj_M) (r : (Int32 × fj_M)) (h : dm_97_124 a1 a2 a3 s0 M = some r) : fj_ev X (97, 124, [some (.inr (20, 0)), some (.inl a1), some (.inl a2), some (.inl a3), none], [(.inl s0)], M) (some r.1, r.2) := by
    unfold dm_97_124 at h
    refine fj_blk 2 (97, 126, [some (.inr (20, 0)), some (.inl a1), some (.inl a2), some (.inl s0), none], [(.inl s0)], M) rfl ?_
    by_cases hc1 : 0 ≤ s0
    · rw [if_pos hc1] at h
      refine fj_bt rfl (decide_eq_true hc1) ?_
      refine fj_blk 3 (97, 182, [some (.inr (20, 0)), some (.inl a1), some (.inl a2), some (.inl s0), none], [(.inl (M.2 20 0 21)), (.inr (20, 0))], M) rfl ?_
      by_cases hc2 : (M.2 20 0 21) ≤ 0
      · rw [if_pos hc2] at h
        refine fj_bt rfl (decide_eq_true hc2) ?_
        exact de_97_205 X a1 a2 s0 M r h
      · rw [if_neg hc2] at h
        refine fj_bf rfl (decide_eq_false hc2) ?_
        refine fj_blk 4 (97, 193, [some (.inr (20, 0)), some (.inl a1), some (.inl a2), some (.inl s0), none], [(.inl (M.2 20 0 20)), (.inr (23, 0)), (.inr (20, 0))], M) rfl ?_
        by_cases hc3 : (M.2 20 0 20) < 0 ∨ 12 ≤ (M.2 20 0 20).toNatClampNeg
        · rw [if_pos hc3] at h
          cases h
        rw [if_neg hc3] at h
        refine fj_ald rfl rfl hc3 ?_
        refine fj_blk 1 (97, 195, [some (.inr (20, 0)), some (.inl a1), some (.inl a2), some (.inl s0), none], [(.inl 1), (.inl (M.2 23 0 ((M.2 20 0 20).toNatClampNeg))), (.inr (20, 0))], M) rfl ?_
        by_cases hc4 : (M.2 23 0 ((M.2 20 0 20).toNatClampNeg)) = 1
        · rw [if_pos hc4] at h
          refine fj_bf rfl (fj_nf hc4) ?_
          refine fj_blk 3 (97, 209, [some (.inr (20, 0)), some (.inl a1), some (.inl a2), some (.inl s0), none], [(.inl (M.2 20 0 21)), (.inr (20, 0))], M) rfl ?_
          exact de_97_209 X a1 a2 s0 (M.2 20 0 21) M r h
        · rw [if_neg hc4] at h
          refine fj_bt rfl (fj_nt hc4) ?_
          exact de_97_205 X a1 a2 s0 M r h
    · rw [if_neg hc1] at h
      refine fj_bf rfl (decide_eq_false hc1) ?_
      refine fj_blk 2 (97, 131, [some (.inr (20, 0)), some (.inl a1), some (.inl a2), some (.inl s0), none], [(.inl a1), (.inr (20, 0))], M) rfl ?_
      by_cases hc5 : a1 = 0
      · rw [if_pos hc5] at h
        refine fj_bf rfl (fj_nf hc5) ?_
        refine fj_blk 2 (97, 147, [some (.inr (20, 0)), some (.inl a1), some (.inl a2), some (.inl s0), none], [(.inl 2), (.inr (20, 0))], M) rfl ?_
        exact de_97_147 X a1 a2 s0 2 M r h
      · rw [if_neg hc5] at h
        refine fj_bt rfl (fj_nt hc5) ?_
        refine fj_blk 1 (97, 139, [some (.inr (20, 0)), some (.inl a1), some (.inl a2), some (.inl s0), none], [(.inl a2), (.inr (20, 0))], M) rfl ?_
        by_cases hc6 : a2 = 0
        · rw [if_pos hc6] at h
          refine fj_bt rfl (decide_eq_true hc6) ?_
          refine fj_blk 1 (97, 147, [some (.inr (20, 0)), some (.inl a1), some (.inl a2), some (.inl s0), none], [(.inl 3), (.inr (20, 0))], M) rfl ?_
          exact de_97_147 X a1 a2 s0 3 M r h
        · rw [if_neg hc6] at h
          refine fj_bf rfl (decide_eq_false hc6) ?_
          refine fj_blk 2 (97, 147, [some (.inr (20, 0)), some (.inl a1), some (.inl a2), some (.inl s0), none], [(.inl 1), (.inr (20, 0))], M) rfl ?_
          exact de_97_147 X a1 a2 s0 1 M r h
def dm_97_120  (a1 : Int32) (a2 : Int32) (a3 : Int32) (M : fj_M) : Option (Int32 × fj_M) := ((dm_96 M).bind fun q1 => dm_97_124 a1 a2 a3 q1.1 q1.2)
set_option maxRecDepth 40000 in
theorem de_97_120 (X : fj_X) (a1 : Int32) (a2 : Int32) (a3 : Int32) (M : fj_M) (r : (Int32 × fj_M)) (h : dm_97_120 a1 a2 a3 M = some r) : fj_ev X (97, 120, [some (.inr (20, 0)), some (.inl a1), some (.inl a2), some (.inl a3), none], [], M) (some r.1, r.2) := by
    unfold dm_97_120 at h
    refine fj_blk 1 (97, 121, [some (.inr (20, 0)), some (.inl a1), some (.inl a2), some (.inl a3), none], [(.inr (20, 0))], M) rfl ?_
    cases hq1 : dm_96 M with
    | none => rw [hq1] at h; cases h
    | some q1 =>
      rw [hq1, Option.bind_some] at h
      refine fj_cl rfl (de_96 X M _ hq1) ?_
      exact de_97_124 X a1 a2 a3 q1.1 q1.2 r h
def dm_97_86  (rec6 : Int32 → Int32 → Int32 → fj_M → Option (Int32 × fj_M)) (a1 : Int32) (a2 : Int32) (a3 : Int32) (s0 : Int32) (M : fj_M) : Option (Int32 × fj_M) := rec6 a1 s0 (a3 + 1) M
set_option maxRecDepth 40000 in
theorem de_97_86 (X : fj_X) (rec6 : Int32 → Int32 → Int32 → fj_M → Option (Int32 × fj_M)) (hrec6 : ∀ (a1 : Int32) (a2 : Int32) (a3 : Int32) (M : fj_M) (r : (Int32 × fj_M)), rec6 a1 a2 a3 M = some r → fj_ev X (97, 6, [some (.inr (20, 0)), some (.inl a1), some (.inl a2), some (.inl a3), none], [], M) (some r.1, r.2)) (a1 : Int32) (a2 : Int32) (a3 : Int32) (s0 : Int32) (M : fj_M) (r : (Int32 × fj_M)) (h : dm_97_86 rec6 a1 a2 a3 s0 M = some r) : fj_ev X (97, 86, [some (.inr (20, 0)), some (.inl a1), some (.inl a2), some (.inl a3), none], [(.inl s0)], M) (some r.1, r.2) := by
    unfold dm_97_86 at h
    refine fj_blk 3 (97, 6, [some (.inr (20, 0)), some (.inl a1), some (.inl s0), some (.inl (a3 + 1)), none], [], M) rfl ?_
    exact hrec6 a1 s0 (a3 + 1) M r h
def dm_97_81  (rec6 : Int32 → Int32 → Int32 → fj_M → Option (Int32 × fj_M)) (a1 : Int32) (a2 : Int32) (a3 : Int32) (M : fj_M) : Option (Int32 × fj_M) := dm_97_86 rec6 a1 a2 a3 1 M
set_option maxRecDepth 40000 in
theorem de_97_81 (X : fj_X) (rec6 : Int32 → Int32 → Int32 → fj_M → Option (Int32 × fj_M)) (hrec6 : ∀ (a1 : Int32) (a2 : Int32) (a3 : Int32) (M : fj_M) (r : (Int32 × fj_M)), rec6 a1 a2 a3 M = some r → fj_ev X (97, 6, [some (.inr (20, 0)), some (.inl a1), some (.inl a2), some (.inl a3), none], [], M) (some r.1, r.2)) (a1 : Int32) (a2 : Int32) (a3 : Int32) (M : fj_M) (r : (Int32 × fj_M)) (h : dm_97_81 rec6 a1 a2 a3 M = some r) : fj_ev X (97, 81, [some (.inr (20, 0)), some (.inl a1), some (.inl a2), some (.inl a3), none], [], M) (some r.1, r.2) := by
    unfold dm_97_81 at h
    refine fj_blk 2 (97, 86, [some (.inr (20, 0)), some (.inl a1), some (.inl a2), some (.inl a3), none], [(.inl 1)], M) rfl ?_
    exact de_97_86 X rec6 hrec6 a1 a2 a3 1 M r h
def dm_97_66  (rec6 : Int32 → Int32 → Int32 → fj_M → Option (Int32 × fj_M)) (a1 : Int32) (a2 : Int32) (a3 : Int32) (s0 : Int32) (M : fj_M) : Option (Int32 × fj_M) := (if a2 = 0 then (if a3 < 0 ∨ 12 ≤ a3.toNatClampNeg then none else (if (M.2 23 0 a3.toNatClampNeg) = 5 then dm_97_81 rec6 s0 a2 a3 M else dm_97_86 rec6 s0 a2 a3 0 M)) else dm_97_81 rec6 s0 a2 a3 M)
set_option maxRecDepth 40000 in
theorem de_97_66 (X : fj_X) (rec6 : Int32 → Int32 → Int32 → fj_M → Option (Int32 × fj_M)) (hrec6 : ∀ (a1 : Int32) (a2 : Int32) (a3 : Int32) (M : fj_M) (r : (Int32 × fj_M)), rec6 a1 a2 a3 M = some r → fj_ev X (97, 6, [some (.inr (20, 0)), some (.inl a1), some (.inl a2), some (.inl a3), none], [], M) (some r.1, r.2)) (a1 : Int32) (a2 : Int32) (a3 : Int32) (s0 : Int32) (M : fj_M) (r : (Int32 × fj_M)) (h : dm_97_66 rec6 a1 a2 a3 s0 M = some r) : fj_ev X (97, 66, [some (.inr (20, 0)), some (.inl a1), some (.inl a2), some (.inl a3), none], [(.inl s0)], M) (some r.1, r.2) := by
    unfold dm_97_66 at h
    refine fj_blk 2 (97, 68, [some (.inr (20, 0)), some (.inl s0), some (.inl a2), some (.inl a3), none], [(.inl a2)], M) rfl ?_
    by_cases hc1 : a2 = 0
    · rw [if_pos hc1] at h
      refine fj_bf rfl (fj_nf hc1) ?_
      refine fj_blk 3 (97, 76, [some (.inr (20, 0)), some (.inl s0), some (.inl a2), some (.inl a3), none], [(.inl a3), (.inr (23, 0))], M) rfl ?_
      by_cases hc2 : a3 < 0 ∨ 12 ≤ a3.toNatClampNeg
      · rw [if_pos hc2] at h
        cases h
      rw [if_neg hc2] at h
      refine fj_ald rfl rfl hc2 ?_
      refine fj_blk 1 (97, 78, [some (.inr (20, 0)), some (.inl s0), some (.inl a2), some (.inl a3), none], [(.inl 5), (.inl (M.2 23 0 a3.toNatClampNeg))], M) rfl ?_
      by_cases hc3 : (M.2 23 0 a3.toNatClampNeg) = 5
      · rw [if_pos hc3] at h
        refine fj_bf rfl (fj_nf hc3) ?_
        exact de_97_81 X rec6 hrec6 s0 a2 a3 M r h
      · rw [if_neg hc3] at h
        refine fj_bt rfl (fj_nt hc3) ?_
        refine fj_blk 1 (97, 86, [some (.inr (20, 0)), some (.inl s0), some (.inl a2), some (.inl a3), none], [(.inl 0)], M) rfl ?_
        exact de_97_86 X rec6 hrec6 s0 a2 a3 0 M r h
    · rw [if_neg hc1] at h
      refine fj_bt rfl (fj_nt hc1) ?_
      exact de_97_81 X rec6 hrec6 s0 a2 a3 M r h
def dm_97_61  (rec6 : Int32 → Int32 → Int32 → fj_M → Option (Int32 × fj_M)) (a1 : Int32) (a2 : Int32) (a3 : Int32) (M : fj_M) : Option (Int32 × fj_M) := dm_97_66 rec6 a1 a2 a3 1 M
set_option maxRecDepth 40000 in
theorem de_97_61 (X : fj_X) (rec6 : Int32 → Int32 → Int32 → fj_M → Option (Int32 × fj_M)) (hrec6 : ∀ (a1 : Int32) (a2 : Int32) (a3 : Int32) (M : fj_M) (r : (Int32 × fj_M)), rec6 a1 a2 a3 M = some r → fj_ev X (97, 6, [some (.inr (20, 0)), some (.inl a1), some (.inl a2), some (.inl a3), none], [], M) (some r.1, r.2)) (a1 : Int32) (a2 : Int32) (a3 : Int32) (M : fj_M) (r : (Int32 × fj_M)) (h : dm_97_61 rec6 a1 a2 a3 M = some r) : fj_ev X (97, 61, [some (.inr (20, 0)), some (.inl a1), some (.inl a2), some (.inl a3), none], [], M) (some r.1, r.2) := by
    unfold dm_97_61 at h
    refine fj_blk 2 (97, 66, [some (.inr (20, 0)), some (.inl a1), some (.inl a2), some (.inl a3), none], [(.inl 1)], M) rfl ?_
    exact de_97_66 X rec6 hrec6 a1 a2 a3 1 M r h
def dm_97_49  (rec6 : Int32 → Int32 → Int32 → fj_M → Option (Int32 × fj_M)) (a1 : Int32) (a2 : Int32) (a3 : Int32) (M : fj_M) : Option (Int32 × fj_M) := (if a1 = 0 then ((dm_82 a3 M).bind fun q2 => (if q2.1 = 0 then dm_97_66 rec6 a1 a2 a3 0 q2.2 else dm_97_61 rec6 a1 a2 a3 q2.2)) else dm_97_61 rec6 a1 a2 a3 M)
set_option maxRecDepth 40000 in
theorem de_97_49 (X : fj_X) (rec6 : Int32 → Int32 → Int32 → fj_M → Option (Int32 × fj_M)) (hrec6 : ∀ (a1 : Int32) (a2 : Int32) (a3 : Int32) (M : fj_M) (r : (Int32 × fj_M)), rec6 a1 a2 a3 M = some r → fj_ev X (97, 6, [some (.inr (20, 0)), some (.inl a1), some (.inl a2), some (.inl a3), none], [], M) (some r.1, r.2)) (a1 : Int32) (a2 : Int32) (a3 : Int32) (M : fj_M) (r : (Int32 × fj_M)) (h : dm_97_49 rec6 a1 a2 a3 M = some r) : fj_ev X (97, 49, [some (.inr (20, 0)), some (.inl a1), some (.inl a2), some (.inl a3), none], [], M) (some r.1, r.2) := by
    unfold dm_97_49 at h
    refine fj_blk 1 (97, 50, [some (.inr (20, 0)), some (.inl a1), some (.inl a2), some (.inl a3), none], [(.inl a1)], M) rfl ?_
    by_cases hc1 : a1 = 0
    · rw [if_pos hc1] at h
      refine fj_bf rfl (fj_nf hc1) ?_
      refine fj_blk 2 (97, 55, [some (.inr (20, 0)), some (.inl a1), some (.inl a2), some (.inl a3), none], [(.inl a3), (.inr (20, 0))], M) rfl ?_
      cases hq2 : dm_82 a3 M with
      | none => rw [hq2] at h; cases h
      | some q2 =>
        rw [hq2, Option.bind_some] at h
        refine fj_cl rfl (de_82 X a3 M _ hq2) ?_
        by_cases hc3 : q2.1 = 0
        · rw [if_pos hc3] at h
          refine fj_bt rfl (decide_eq_true hc3) ?_
          refine fj_blk 1 (97, 66, [some (.inr (20, 0)), some (.inl a1), some (.inl a2), some (.inl a3), none], [(.inl 0)], q2.2) rfl ?_
          exact de_97_66 X rec6 hrec6 a1 a2 a3 0 q2.2 r h
        · rw [if_neg hc3] at h
          refine fj_bf rfl (decide_eq_false hc3) ?_
          exact de_97_61 X rec6 hrec6 a1 a2 a3 q2.2 r h
    · rw [if_neg hc1] at h
      refine fj_bt rfl (fj_nt hc1) ?_
      exact de_97_61 X rec6 hrec6 a1 a2 a3 M r h
def dm_97_6  : Nat → Int32 → Int32 → Int32 → fj_M → Option (Int32 × fj_M)
  | 0, _, _, _, _ => none
  | n + 1, a1, a2, a3, M => (if 12 ≤ a3 then (if (M.2 20 0 21) ≤ 0 then dm_97_120 a1 a2 a3 M else (if (M.2 20 0 20) < 0 ∨ 12 ≤ (M.2 20 0 20).toNatClampNeg then none else (if (M.2 23 0 ((M.2 20 0 20).toNatClampNeg)) = 1 then dm_97_124 a1 a2 a3 (M.2 20 0 20) M else dm_97_120 a1 a2 a3 M))) else (if a3 < 0 ∨ 12 ≤ a3.toNatClampNeg then none else (if (M.2 23 0 a3.toNatClampNeg) = 5 then (if a3 < 0 ∨ 12 ≤ a3.toNatClampNeg then none else (if (M.2 20 0 19) < (M.2 31 0 a3.toNatClampNeg) then dm_97_49 (dm_97_6 n) a1 a2 a3 M else (if a3 < 0 ∨ 12 ≤ a3.toNatClampNeg then none else (if a3 < 0 ∨ 12 ≤ a3.toNatClampNeg then none else dm_97_49 (dm_97_6 n) a1 a2 a3 (M.1, (fj_u1 (fj_u1 M.2 23 0 a3.toNatClampNeg 1) 31 0 a3.toNatClampNeg 0)))))) else dm_97_49 (dm_97_6 n) a1 a2 a3 M)))
set_option maxRecDepth 40000 in
theorem de_97_6 (X : fj_X) : ∀ (n : Nat) (a1 : Int32) (a2 : Int32) (a3 : Int32) (M : fj_M) (r : (Int32 × fj_M)), dm_97_6 n a1 a2 a3 M = some r → fj_ev X (97, 6, [some (.inr (20, 0)), some (.inl a1), some (.inl a2), some (.inl a3), none], [], M) (some r.1, r.2)
  | 0, _, _, _, _, r, h => by cases h
  | n + 1, a1, a2, a3, M, r, h => by
    unfold dm_97_6 at h
    refine fj_blk 2 (97, 9, [some (.inr (20, 0)), some (.inl a1), some (.inl a2), some (.inl a3), none], [(.inl 12), (.inl a3)], M) rfl ?_
    by_cases hc1 : 12 ≤ a3
    · rw [if_pos hc1] at h
      refine fj_bt rfl (decide_eq_true hc1) ?_
      refine fj_blk 2 (97, 97, [some (.inr (20, 0)), some (.inl a1), some (.inl a2), some (.inl a3), none], [(.inl (M.2 20 0 21))], M) rfl ?_
      by_cases hc2 : (M.2 20 0 21) ≤ 0
      · rw [if_pos hc2] at h
        refine fj_bt rfl (decide_eq_true hc2) ?_
        exact de_97_120 X a1 a2 a3 M r h
      · rw [if_neg hc2] at h
        refine fj_bf rfl (decide_eq_false hc2) ?_
        refine fj_blk 4 (97, 108, [some (.inr (20, 0)), some (.inl a1), some (.inl a2), some (.inl a3), none], [(.inl (M.2 20 0 20)), (.inr (23, 0))], M) rfl ?_
        by_cases hc3 : (M.2 20 0 20) < 0 ∨ 12 ≤ (M.2 20 0 20).toNatClampNeg
        · rw [if_pos hc3] at h
          cases h
        rw [if_neg hc3] at h
        refine fj_ald rfl rfl hc3 ?_
        refine fj_blk 1 (97, 110, [some (.inr (20, 0)), some (.inl a1), some (.inl a2), some (.inl a3), none], [(.inl 1), (.inl (M.2 23 0 ((M.2 20 0 20).toNatClampNeg)))], M) rfl ?_
        by_cases hc4 : (M.2 23 0 ((M.2 20 0 20).toNatClampNeg)) = 1
        · rw [if_pos hc4] at h
          refine fj_bf rfl (fj_nf hc4) ?_
          refine fj_blk 3 (97, 124, [some (.inr (20, 0)), some (.inl a1), some (.inl a2), some (.inl a3), none], [(.inl (M.2 20 0 20))], M) rfl ?_
          exact de_97_124 X a1 a2 a3 (M.2 20 0 20) M r h
        · rw [if_neg hc4] at h
          refine fj_bt rfl (fj_nt hc4) ?_
          exact de_97_120 X a1 a2 a3 M r h
    · rw [if_neg hc1] at h
      refine fj_bf rfl (decide_eq_false hc1) ?_
      refine fj_blk 3 (97, 17, [some (.inr (20, 0)), some (.inl a1), some (.inl a2), some (.inl a3), none], [(.inl a3), (.inr (23, 0))], M) rfl ?_
      by_cases hc5 : a3 < 0 ∨ 12 ≤ a3.toNatClampNeg
      · rw [if_pos hc5] at h
        cases h
      rw [if_neg hc5] at h
      refine fj_ald rfl rfl hc5 ?_
      refine fj_blk 1 (97, 19, [some (.inr (20, 0)), some (.inl a1), some (.inl a2), some (.inl a3), none], [(.inl 5), (.inl (M.2 23 0 a3.toNatClampNeg))], M) rfl ?_
      by_cases hc6 : (M.2 23 0 a3.toNatClampNeg) = 5
      · rw [if_pos hc6] at h
        refine fj_bf rfl (fj_nf hc6) ?_
        refine fj_blk 3 (97, 27, [some (.inr (20, 0)), some (.inl a1), some (.inl a2), some (.inl a3), none], [(.inl a3), (.inr (31, 0))], M) rfl ?_
        by_cases hc7 : a3 < 0 ∨ 12 ≤ a3.toNatClampNeg
        · rw [if_pos hc7] at h
          cases h
        rw [if_neg hc7] at h
        refine fj_ald rfl rfl hc7 ?_
        refine fj_blk 2 (97, 32, [some (.inr (20, 0)), some (.inl a1), some (.inl a2), some (.inl a3), none], [(.inl (M.2 20 0 19)), (.inl (M.2 31 0 a3.toNatClampNeg))], M) rfl ?_
        by_cases hc8 : (M.2 20 0 19) < (M.2 31 0 a3.toNatClampNeg)
        · rw [if_pos hc8] at h
          refine fj_bt rfl (decide_eq_true hc8) ?_
          exact de_97_49 X (dm_97_6 n) (de_97_6 X n) a1 a2 a3 M r h
        · rw [if_neg hc8] at h
          refine fj_bf rfl (decide_eq_false hc8) ?_
          refine fj_blk 4 (97, 41, [some (.inr (20, 0)), some (.inl a1), some (.inl a2), some (.inl a3), none], [(.inl 1), (.inl a3), (.inr (23, 0))], M) rfl ?_
          by_cases hc9 : a3 < 0 ∨ 12 ≤ a3.toNatClampNeg
          · rw [if_pos hc9] at h
            cases h
          rw [if_neg hc9] at h
          refine fj_ast rfl rfl hc9 ?_
          refine fj_blk 4 (97, 48, [some (.inr (20, 0)), some (.inl a1), some (.inl a2), some (.inl a3), none], [(.inl 0), (.inl a3), (.inr (31, 0))], (M.1, (fj_u1 M.2 23 0 a3.toNatClampNeg 1))) rfl ?_
          by_cases hc10 : a3 < 0 ∨ 12 ≤ a3.toNatClampNeg
          · rw [if_pos hc10] at h
            cases h
          rw [if_neg hc10] at h
          refine fj_ast rfl rfl hc10 ?_
          exact de_97_49 X (dm_97_6 n) (de_97_6 X n) a1 a2 a3 (M.1, (fj_u1 (fj_u1 M.2 23 0 a3.toNatClampNeg 1) 31 0 a3.toNatClampNeg 0)) r h
      · rw [if_neg hc6] at h
        refine fj_bt rfl (fj_nt hc6) ?_
        exact de_97_49 X (dm_97_6 n) (de_97_6 X n) a1 a2 a3 M r h
/-- X6_step -/
def dm_97  (M : fj_M) : Option (Int32 × fj_M) := dm_97_6 40 0 0 0 M
set_option maxRecDepth 40000 in
theorem de_97 (X : fj_X)  (M : fj_M) (r : (Int32 × fj_M)) (h : dm_97  M = some r) : fj_ev X (97, 0, [some (.inr (20, 0)), none, none, none, none], [], M) (some r.1, r.2) := by
    unfold dm_97 at h
    refine fj_blk 6 (97, 6, [some (.inr (20, 0)), some (.inl 0), some (.inl 0), some (.inl 0), none], [], M) rfl ?_
    exact de_97_6 X 40 0 0 0 M r h
def dm_98_16  : Nat → Int32 → Int32 → Option fj_V → fj_M → Option (Int32 × fj_M)
  | 0, _, _, _, _ => none
  | n + 1, a1, a2, o3, M => (if a1 ≤ a2 then some (a2, M) else ((dm_97 M).bind fun q2 => (if q2.1 = 2 then some (a2, q2.2) else (if q2.1 = 3 then some (a2, q2.2) else dm_98_16 n a1 (a2 + 1) (some (.inl q2.1)) q2.2))))
set_option maxRecDepth 40000 in
theorem de_98_16 (X : fj_X) : ∀ (n : Nat) (a1 : Int32) (a2 : Int32) (o3 : Option fj_V) (M : fj_M) (r : (Int32 × fj_M)), dm_98_16 n a1 a2 o3 M = some r → fj_ev X (98, 16, [some (.inr (20, 0)), some (.inl a1), some (.inl a2), o3], [], M) (some r.1, r.2)
  | 0, _, _, _, _, r, h => by cases h
  | n + 1, a1, a2, o3, M, r, h => by
    unfold dm_98_16 at h
    refine fj_blk 2 (98, 18, [some (.inr (20, 0)), some (.inl a1), some (.inl a2), o3], [(.inl a1), (.inl a2)], M) rfl ?_
    by_cases hc1 : a1 ≤ a2
    · rw [if_pos hc1] at h
      refine fj_bt rfl (decide_eq_true hc1) ?_
      refine fj_blk 1 (98, 45, [some (.inr (20, 0)), some (.inl a1), some (.inl a2), o3], [(.inl a2)], M) rfl ?_
      cases h
      exact fj_ri rfl rfl
    · rw [if_neg hc1] at h
      refine fj_bf rfl (decide_eq_false hc1) ?_
      refine fj_blk 1 (98, 22, [some (.inr (20, 0)), some (.inl a1), some (.inl a2), o3], [(.inr (20, 0))], M) rfl ?_
      cases hq2 : dm_97 M with
      | none => rw [hq2] at h; cases h
      | some q2 =>
        rw [hq2, Option.bind_some] at h
        refine fj_cl rfl (de_97 X M _ hq2) ?_
        refine fj_blk 3 (98, 28, [some (.inr (20, 0)), some (.inl a1), some (.inl a2), some (.inl q2.1)], [(.inl 2), (.inl q2.1)], q2.2) rfl ?_
        by_cases hc3 : q2.1 = 2
        · rw [if_pos hc3] at h
          refine fj_bt rfl (decide_eq_true hc3) ?_
          refine fj_blk 1 (98, 37, [some (.inr (20, 0)), some (.inl a1), some (.inl a2), some (.inl q2.1)], [(.inl a2)], q2.2) rfl ?_
          cases h
          exact fj_ri rfl rfl
        · rw [if_neg hc3] at h
          refine fj_bf rfl (decide_eq_false hc3) ?_
          refine fj_blk 2 (98, 33, [some (.inr (20, 0)), some (.inl a1), some (.inl a2), some (.inl q2.1)], [(.inl 3), (.inl q2.1)], q2.2) rfl ?_
          by_cases hc4 : q2.1 = 3
          · rw [if_pos hc4] at h
            refine fj_bf rfl (fj_nf hc4) ?_
            refine fj_blk 1 (98, 37, [some (.inr (20, 0)), some (.inl a1), some (.inl a2), some (.inl q2.1)], [(.inl a2)], q2.2) rfl ?_
            cases h
            exact fj_ri rfl rfl
          · rw [if_neg hc4] at h
            refine fj_bt rfl (fj_nt hc4) ?_
            refine fj_blk 2 (98, 16, [some (.inr (20, 0)), some (.inl a1), some (.inl (a2 + 1)), some (.inl q2.1)], [], q2.2) rfl ?_
            exact de_98_16 X n a1 (a2 + 1) (some (.inl q2.1)) q2.2 r h
/-- X6_run -/
def dm_98 (a1 : Int32) (M : fj_M) : Option (Int32 × fj_M) := ((dm_78 a1 0 5000 M).bind fun q1 => (if q1.1 = 0 then some ((-2), q1.2) else dm_98_16 5001 a1 0 none q1.2))
set_option maxRecDepth 40000 in
theorem de_98 (X : fj_X) (a1 : Int32) (M : fj_M) (r : (Int32 × fj_M)) (h : dm_98 a1 M = some r) : fj_ev X (98, 0, [some (.inr (20, 0)), some (.inl a1), none, none], [], M) (some r.1, r.2) := by
    unfold dm_98 at h
    refine fj_blk 3 (98, 5, [some (.inr (20, 0)), some (.inl a1), none, none], [(.inl 5000), (.inl 0), (.inl a1)], M) rfl ?_
    cases hq1 : dm_78 a1 0 5000 M with
    | none => rw [hq1] at h; cases h
    | some q1 =>
      rw [hq1, Option.bind_some] at h
      refine fj_cl rfl (de_78 X a1 0 5000 M _ hq1) ?_
      by_cases hc2 : q1.1 = 0
      · rw [if_pos hc2] at h
        refine fj_bf rfl (fj_nf hc2) ?_
        refine fj_blk 1 (98, 13, [some (.inr (20, 0)), some (.inl a1), none, none], [(.inl (-2))], q1.2) rfl ?_
        cases h
        exact fj_ri rfl rfl
      · rw [if_neg hc2] at h
        refine fj_bt rfl (fj_nt hc2) ?_
        refine fj_blk 2 (98, 16, [some (.inr (20, 0)), some (.inl a1), some (.inl 0), none], [], q1.2) rfl ?_
        exact de_98_16 X 5001 a1 0 none q1.2 r h
/-- X6_latest -/
def dm_113  (M : fj_M) : Option (Int32 × fj_M) := some (M.2 20 0 23, M)
set_option maxRecDepth 40000 in
theorem de_113 (X : fj_X)  (M : fj_M) (r : (Int32 × fj_M)) (h : dm_113  M = some r) : fj_ev X (113, 0, [some (.inr (20, 0))], [], M) (some r.1, r.2) := by
    unfold dm_113 at h
    refine fj_blk 2 (113, 4, [some (.inr (20, 0))], [(.inl (M.2 20 0 23))], M) rfl ?_
    cases h
    exact fj_ri rfl rfl
/-- X6_isTask -/
def dm_114 (a0 : Int32) (M : fj_M) : Option (Int32 × fj_M) := ((dm_78 a0 0 11 M).bind fun q1 => (if q1.1 = 0 ∨ q1.1 = 1 then some (q1.1, q1.2) else none))
set_option maxRecDepth 40000 in
theorem de_114 (X : fj_X) (a0 : Int32) (M : fj_M) (r : (Int32 × fj_M)) (h : dm_114 a0 M = some r) : fj_ev X (114, 0, [some (.inl a0)], [], M) (some r.1, r.2) := by
    unfold dm_114 at h
    refine fj_blk 3 (114, 4, [some (.inl a0)], [(.inl 11), (.inl 0), (.inl a0)], M) rfl ?_
    cases hq1 : dm_78 a0 0 11 M with
    | none => rw [hq1] at h; cases h
    | some q1 =>
      rw [hq1, Option.bind_some] at h
      refine fj_cl rfl (de_78 X a0 0 11 M _ hq1) ?_
      by_cases hc2 : q1.1 = 0 ∨ q1.1 = 1
      · rw [if_pos hc2] at h
        cases h
        exact fj_rz rfl rfl hc2
      · rw [if_neg hc2] at h
        cases h
/-- X6_state -/
def dm_115 (a1 : Int32) (M : fj_M) : Option (Int32 × fj_M) := ((dm_114 a1 M).bind fun q1 => (if q1.1 = 0 then some ((-1), q1.2) else (if a1 < 0 ∨ 12 ≤ a1.toNatClampNeg then none else some (q1.2.2 23 0 a1.toNatClampNeg, q1.2))))
set_option maxRecDepth 40000 in
theorem de_115 (X : fj_X) (a1 : Int32) (M : fj_M) (r : (Int32 × fj_M)) (h : dm_115 a1 M = some r) : fj_ev X (115, 0, [some (.inr (20, 0)), some (.inl a1)], [], M) (some r.1, r.2) := by
    unfold dm_115 at h
    refine fj_blk 1 (115, 1, [some (.inr (20, 0)), some (.inl a1)], [(.inl a1)], M) rfl ?_
    cases hq1 : dm_114 a1 M with
    | none => rw [hq1] at h; cases h
    | some q1 =>
      rw [hq1, Option.bind_some] at h
      refine fj_cl rfl (de_114 X a1 M _ hq1) ?_
      by_cases hc2 : q1.1 = 0
      · rw [if_pos hc2] at h
        refine fj_bt rfl (decide_eq_true hc2) ?_
        refine fj_blk 1 (115, 17, [some (.inr (20, 0)), some (.inl a1)], [(.inl (-1))], q1.2) rfl ?_
        cases h
        exact fj_ri rfl rfl
      · rw [if_neg hc2] at h
        refine fj_bf rfl (decide_eq_false hc2) ?_
        refine fj_blk 3 (115, 12, [some (.inr (20, 0)), some (.inl a1)], [(.inl a1), (.inr (23, 0))], q1.2) rfl ?_
        by_cases hc3 : a1 < 0 ∨ 12 ≤ a1.toNatClampNeg
        · rw [if_pos hc3] at h
          cases h
        rw [if_neg hc3] at h
        refine fj_ald rfl rfl hc3 ?_
        refine fj_blk 1 (115, 17, [some (.inr (20, 0)), some (.inl a1)], [(.inl (q1.2.2 23 0 a1.toNatClampNeg))], q1.2) rfl ?_
        cases h
        exact fj_ri rfl rfl
/-- X6_about -/
def dm_116 (a1 : Int32) (a2 : Int32) (M : fj_M) : Option (Int32 × fj_M) := ((dm_114 a1 M).bind fun q1 => (if q1.1 = 0 then some ((-1000000001), q1.2) else (if a2 = 0 then (if a1 < 0 ∨ 12 ≤ a1.toNatClampNeg then none else some (q1.2.2 24 0 a1.toNatClampNeg, q1.2)) else (if a2 = 1 then (if a1 < 0 ∨ 12 ≤ a1.toNatClampNeg then none else some (q1.2.2 25 0 a1.toNatClampNeg, q1.2)) else (if a2 = 2 then (if a1 < 0 ∨ 12 ≤ a1.toNatClampNeg then none else some (q1.2.2 27 0 a1.toNatClampNeg, q1.2)) else (if a2 = 3 then (if a1 < 0 ∨ 12 ≤ a1.toNatClampNeg then none else some (q1.2.2 29 0 a1.toNatClampNeg, q1.2)) else (if a2 = 4 then (if a1 < 0 ∨ 12 ≤ a1.toNatClampNeg then none else some (q1.2.2 30 0 a1.toNatClampNeg, q1.2)) else (if a2 = 5 then (if a1 < 0 ∨ 12 ≤ a1.toNatClampNeg then none else some (q1.2.2 31 0 a1.toNatClampNeg, q1.2)) else (if a2 = 6 then (if a1 < 0 ∨ 12 ≤ a1.toNatClampNeg then none else some (q1.2.2 32 0 a1.toNatClampNeg, q1.2)) else some ((-1000000001), q1.2))))))))))
set_option maxRecDepth 40000 in
theorem de_116 (X : fj_X) (a1 : Int32) (a2 : Int32) (M : fj_M) (r : (Int32 × fj_M)) (h : dm_116 a1 a2 M = some r) : fj_ev X (116, 0, [some (.inr (20, 0)), some (.inl a1), some (.inl a2)], [], M) (some r.1, r.2) := by
    unfold dm_116 at h
    refine fj_blk 1 (116, 1, [some (.inr (20, 0)), some (.inl a1), some (.inl a2)], [(.inl a1)], M) rfl ?_
    cases hq1 : dm_114 a1 M with
    | none => rw [hq1] at h; cases h
    | some q1 =>
      rw [hq1, Option.bind_some] at h
      refine fj_cl rfl (de_114 X a1 M _ hq1) ?_
      by_cases hc2 : q1.1 = 0
      · rw [if_pos hc2] at h
        refine fj_bf rfl (fj_nf hc2) ?_
        refine fj_blk 1 (116, 9, [some (.inr (20, 0)), some (.inl a1), some (.inl a2)], [(.inl (-1000000001))], q1.2) rfl ?_
        cases h
        exact fj_ri rfl rfl
      · rw [if_neg hc2] at h
        refine fj_bt rfl (fj_nt hc2) ?_
        refine fj_blk 1 (116, 11, [some (.inr (20, 0)), some (.inl a1), some (.inl a2)], [(.inl a2)], q1.2) rfl ?_
        by_cases hc3 : a2 = 0
        · rw [if_pos hc3] at h
          refine fj_swg (t := 52) rfl (by rw [hc3]; rfl) ?_
          refine fj_blk 3 (116, 57, [some (.inr (20, 0)), some (.inl a1), some (.inl a2)], [(.inl a1), (.inr (24, 0))], q1.2) rfl ?_
          by_cases hc4 : a1 < 0 ∨ 12 ≤ a1.toNatClampNeg
          · rw [if_pos hc4] at h
            cases h
          rw [if_neg hc4] at h
          refine fj_ald rfl rfl hc4 ?_
          cases h
          exact fj_ri rfl rfl
        · rw [if_neg hc3] at h
          by_cases hc5 : a2 = 1
          · rw [if_pos hc5] at h
            refine fj_swg (t := 59) rfl (by rw [hc5]; rfl) ?_
            refine fj_blk 3 (116, 64, [some (.inr (20, 0)), some (.inl a1), some (.inl a2)], [(.inl a1), (.inr (25, 0))], q1.2) rfl ?_
            by_cases hc6 : a1 < 0 ∨ 12 ≤ a1.toNatClampNeg
            · rw [if_pos hc6] at h
              cases h
            rw [if_neg hc6] at h
            refine fj_ald rfl rfl hc6 ?_
            cases h
            exact fj_ri rfl rfl
          · rw [if_neg hc5] at h
            by_cases hc7 : a2 = 2
            · rw [if_pos hc7] at h
              refine fj_swg (t := 66) rfl (by rw [hc7]; rfl) ?_
              refine fj_blk 3 (116, 71, [some (.inr (20, 0)), some (.inl a1), some (.inl a2)], [(.inl a1), (.inr (27, 0))], q1.2) rfl ?_
              by_cases hc8 : a1 < 0 ∨ 12 ≤ a1.toNatClampNeg
              · rw [if_pos hc8] at h
                cases h
              rw [if_neg hc8] at h
              refine fj_ald rfl rfl hc8 ?_
              cases h
              exact fj_ri rfl rfl
            · rw [if_neg hc7] at h
              by_cases hc9 : a2 = 3
              · rw [if_pos hc9] at h
                refine fj_swg (t := 73) rfl (by rw [hc9]; rfl) ?_
                refine fj_blk 3 (116, 78, [some (.inr (20, 0)), some (.inl a1), some (.inl a2)], [(.inl a1), (.inr (29, 0))], q1.2) rfl ?_
                by_cases hc10 : a1 < 0 ∨ 12 ≤ a1.toNatClampNeg
                · rw [if_pos hc10] at h
                  cases h
                rw [if_neg hc10] at h
                refine fj_ald rfl rfl hc10 ?_
                cases h
                exact fj_ri rfl rfl
              · rw [if_neg hc9] at h
                by_cases hc11 : a2 = 4
                · rw [if_pos hc11] at h
                  refine fj_swg (t := 80) rfl (by rw [hc11]; rfl) ?_
                  refine fj_blk 3 (116, 85, [some (.inr (20, 0)), some (.inl a1), some (.inl a2)], [(.inl a1), (.inr (30, 0))], q1.2) rfl ?_
                  by_cases hc12 : a1 < 0 ∨ 12 ≤ a1.toNatClampNeg
                  · rw [if_pos hc12] at h
                    cases h
                  rw [if_neg hc12] at h
                  refine fj_ald rfl rfl hc12 ?_
                  cases h
                  exact fj_ri rfl rfl
                · rw [if_neg hc11] at h
                  by_cases hc13 : a2 = 5
                  · rw [if_pos hc13] at h
                    refine fj_swg (t := 87) rfl (by rw [hc13]; rfl) ?_
                    refine fj_blk 3 (116, 92, [some (.inr (20, 0)), some (.inl a1), some (.inl a2)], [(.inl a1), (.inr (31, 0))], q1.2) rfl ?_
                    by_cases hc14 : a1 < 0 ∨ 12 ≤ a1.toNatClampNeg
                    · rw [if_pos hc14] at h
                      cases h
                    rw [if_neg hc14] at h
                    refine fj_ald rfl rfl hc14 ?_
                    cases h
                    exact fj_ri rfl rfl
                  · rw [if_neg hc13] at h
                    by_cases hc15 : a2 = 6
                    · rw [if_pos hc15] at h
                      refine fj_swg (t := 94) rfl (by rw [hc15]; rfl) ?_
                      refine fj_blk 3 (116, 99, [some (.inr (20, 0)), some (.inl a1), some (.inl a2)], [(.inl a1), (.inr (32, 0))], q1.2) rfl ?_
                      by_cases hc16 : a1 < 0 ∨ 12 ≤ a1.toNatClampNeg
                      · rw [if_pos hc16] at h
                        cases h
                      rw [if_neg hc16] at h
                      refine fj_ald rfl rfl hc16 ?_
                      cases h
                      exact fj_ri rfl rfl
                    · rw [if_neg hc15] at h
                      refine fj_swg (t := 101) rfl (by simp only [fj_sw, hc3, hc5, hc7, hc9, hc11, hc13, hc15, if_false]) ?_
                      refine fj_blk 1 (116, 103, [some (.inr (20, 0)), some (.inl a1), some (.inl a2)], [(.inl (-1000000001))], q1.2) rfl ?_
                      cases h
                      exact fj_ri rfl rfl
/-- X6_stack -/
def dm_117 (a1 : Int32) (a2 : Int32) (M : fj_M) : Option (Int32 × fj_M) := ((dm_114 a1 M).bind fun q1 => (if q1.1 = 0 then some (0, q1.2) else (if a1 < 0 ∨ 12 ≤ a1.toNatClampNeg then none else ((dm_78 a2 0 ((q1.2.2 25 0 a1.toNatClampNeg) - 1) q1.2).bind fun q4 => (if q4.1 = 0 then some (0, q4.2) else (if ((24 * a1) + a2) < 0 ∨ 288 ≤ ((24 * a1) + a2).toNatClampNeg then none else some (q4.2.2 26 0 (((24 * a1) + a2).toNatClampNeg), q4.2)))))))
set_option maxRecDepth 40000 in
theorem de_117 (X : fj_X) (a1 : Int32) (a2 : Int32) (M : fj_M) (r : (Int32 × fj_M)) (h : dm_117 a1 a2 M = some r) : fj_ev X (117, 0, [some (.inr (20, 0)), some (.inl a1), some (.inl a2)], [], M) (some r.1, r.2) := by
    unfold dm_117 at h
    refine fj_blk 1 (117, 1, [some (.inr (20, 0)), some (.inl a1), some (.inl a2)], [(.inl a1)], M) rfl ?_
    cases hq1 : dm_114 a1 M with
    | none => rw [hq1] at h; cases h
    | some q1 =>
      rw [hq1, Option.bind_some] at h
      refine fj_cl rfl (de_114 X a1 M _ hq1) ?_
      by_cases hc2 : q1.1 = 0
      · rw [if_pos hc2] at h
        refine fj_bt rfl (decide_eq_true hc2) ?_
        refine fj_blk 1 (117, 38, [some (.inr (20, 0)), some (.inl a1), some (.inl a2)], [(.inl 0)], q1.2) rfl ?_
        cases h
        exact fj_ri rfl rfl
      · rw [if_neg hc2] at h
        refine fj_bf rfl (decide_eq_false hc2) ?_
        refine fj_blk 5 (117, 14, [some (.inr (20, 0)), some (.inl a1), some (.inl a2)], [(.inl a1), (.inr (25, 0)), (.inl 0), (.inl a2)], q1.2) rfl ?_
        by_cases hc3 : a1 < 0 ∨ 12 ≤ a1.toNatClampNeg
        · rw [if_pos hc3] at h
          cases h
        rw [if_neg hc3] at h
        refine fj_ald rfl rfl hc3 ?_
        refine fj_blk 2 (117, 17, [some (.inr (20, 0)), some (.inl a1), some (.inl a2)], [(.inl ((q1.2.2 25 0 a1.toNatClampNeg) - 1)), (.inl 0), (.inl a2)], q1.2) rfl ?_
        cases hq4 : dm_78 a2 0 ((q1.2.2 25 0 a1.toNatClampNeg) - 1) q1.2 with
        | none => rw [hq4] at h; cases h
        | some q4 =>
          rw [hq4, Option.bind_some] at h
          refine fj_cl rfl (de_78 X a2 0 ((q1.2.2 25 0 a1.toNatClampNeg) - 1) q1.2 _ hq4) ?_
          by_cases hc5 : q4.1 = 0
          · rw [if_pos hc5] at h
            refine fj_bt rfl (decide_eq_true hc5) ?_
            refine fj_blk 1 (117, 38, [some (.inr (20, 0)), some (.inl a1), some (.inl a2)], [(.inl 0)], q4.2) rfl ?_
            cases h
            exact fj_ri rfl rfl
          · rw [if_neg hc5] at h
            refine fj_bf rfl (decide_eq_false hc5) ?_
            refine fj_blk 7 (117, 33, [some (.inr (20, 0)), some (.inl a1), some (.inl a2)], [(.inl ((24 * a1) + a2)), (.inr (26, 0))], q4.2) rfl ?_
            by_cases hc6 : ((24 * a1) + a2) < 0 ∨ 288 ≤ ((24 * a1) + a2).toNatClampNeg
            · rw [if_pos hc6] at h
              cases h
            rw [if_neg hc6] at h
            refine fj_ald rfl rfl hc6 ?_
            refine fj_blk 1 (117, 38, [some (.inr (20, 0)), some (.inl a1), some (.inl a2)], [(.inl (q4.2.2 26 0 (((24 * a1) + a2).toNatClampNeg)))], q4.2) rfl ?_
            cases h
            exact fj_ri rfl rfl
/-- X6_held -/
def dm_118 (a1 : Int32) (M : fj_M) : Option (Int32 × fj_M) := ((dm_87 a1 M).bind fun q1 => (if q1.1 = 0 then some ((-1), q1.2) else (if a1 < 0 ∨ 6 ≤ a1.toNatClampNeg then none else some (q1.2.2 36 0 a1.toNatClampNeg, q1.2))))
set_option maxRecDepth 40000 in
theorem de_118 (X : fj_X) (a1 : Int32) (M : fj_M) (r : (Int32 × fj_M)) (h : dm_118 a1 M = some r) : fj_ev X (118, 0, [some (.inr (20, 0)), some (.inl a1)], [], M) (some r.1, r.2) := by
    unfold dm_118 at h
    refine fj_blk 1 (118, 1, [some (.inr (20, 0)), some (.inl a1)], [(.inl a1)], M) rfl ?_
    cases hq1 : dm_87 a1 M with
    | none => rw [hq1] at h; cases h
    | some q1 =>
      rw [hq1, Option.bind_some] at h
      refine fj_cl rfl (de_87 X a1 M _ hq1) ?_
      by_cases hc2 : q1.1 = 0
      · rw [if_pos hc2] at h
        refine fj_bt rfl (decide_eq_true hc2) ?_
        refine fj_blk 1 (118, 17, [some (.inr (20, 0)), some (.inl a1)], [(.inl (-1))], q1.2) rfl ?_
        cases h
        exact fj_ri rfl rfl
      · rw [if_neg hc2] at h
        refine fj_bf rfl (decide_eq_false hc2) ?_
        refine fj_blk 3 (118, 12, [some (.inr (20, 0)), some (.inl a1)], [(.inl a1), (.inr (36, 0))], q1.2) rfl ?_
        by_cases hc3 : a1 < 0 ∨ 6 ≤ a1.toNatClampNeg
        · rw [if_pos hc3] at h
          cases h
        rw [if_neg hc3] at h
        refine fj_ald rfl rfl hc3 ?_
        refine fj_blk 1 (118, 17, [some (.inr (20, 0)), some (.inl a1)], [(.inl (q1.2.2 36 0 a1.toNatClampNeg))], q1.2) rfl ?_
        cases h
        exact fj_ri rfl rfl
/-- X6_channel -/
def dm_119 (a1 : Int32) (a2 : Int32) (M : fj_M) : Option (Int32 × fj_M) := ((dm_87 a1 M).bind fun q1 => (if q1.1 = 0 then some (0, q1.2) else (if a1 < 0 ∨ 6 ≤ a1.toNatClampNeg then none else ((dm_78 a2 0 ((q1.2.2 36 0 a1.toNatClampNeg) - 1) q1.2).bind fun q4 => (if q4.1 = 0 then some (0, q4.2) else (if ((8 * a1) + a2) < 0 ∨ 48 ≤ ((8 * a1) + a2).toNatClampNeg then none else some (q4.2.2 37 0 (((8 * a1) + a2).toNatClampNeg), q4.2)))))))
set_option maxRecDepth 40000 in
theorem de_119 (X : fj_X) (a1 : Int32) (a2 : Int32) (M : fj_M) (r : (Int32 × fj_M)) (h : dm_119 a1 a2 M = some r) : fj_ev X (119, 0, [some (.inr (20, 0)), some (.inl a1), some (.inl a2)], [], M) (some r.1, r.2) := by
    unfold dm_119 at h
    refine fj_blk 1 (119, 1, [some (.inr (20, 0)), some (.inl a1), some (.inl a2)], [(.inl a1)], M) rfl ?_
    cases hq1 : dm_87 a1 M with
    | none => rw [hq1] at h; cases h
    | some q1 =>
      rw [hq1, Option.bind_some] at h
      refine fj_cl rfl (de_87 X a1 M _ hq1) ?_
      by_cases hc2 : q1.1 = 0
      · rw [if_pos hc2] at h
        refine fj_bt rfl (decide_eq_true hc2) ?_
        refine fj_blk 1 (119, 38, [some (.inr (20, 0)), some (.inl a1), some (.inl a2)], [(.inl 0)], q1.2) rfl ?_
        cases h
        exact fj_ri rfl rfl
      · rw [if_neg hc2] at h
        refine fj_bf rfl (decide_eq_false hc2) ?_
        refine fj_blk 5 (119, 14, [some (.inr (20, 0)), some (.inl a1), some (.inl a2)], [(.inl a1), (.inr (36, 0)), (.inl 0), (.inl a2)], q1.2) rfl ?_
        by_cases hc3 : a1 < 0 ∨ 6 ≤ a1.toNatClampNeg
        · rw [if_pos hc3] at h
          cases h
        rw [if_neg hc3] at h
        refine fj_ald rfl rfl hc3 ?_
        refine fj_blk 2 (119, 17, [some (.inr (20, 0)), some (.inl a1), some (.inl a2)], [(.inl ((q1.2.2 36 0 a1.toNatClampNeg) - 1)), (.inl 0), (.inl a2)], q1.2) rfl ?_
        cases hq4 : dm_78 a2 0 ((q1.2.2 36 0 a1.toNatClampNeg) - 1) q1.2 with
        | none => rw [hq4] at h; cases h
        | some q4 =>
          rw [hq4, Option.bind_some] at h
          refine fj_cl rfl (de_78 X a2 0 ((q1.2.2 36 0 a1.toNatClampNeg) - 1) q1.2 _ hq4) ?_
          by_cases hc5 : q4.1 = 0
          · rw [if_pos hc5] at h
            refine fj_bt rfl (decide_eq_true hc5) ?_
            refine fj_blk 1 (119, 38, [some (.inr (20, 0)), some (.inl a1), some (.inl a2)], [(.inl 0)], q4.2) rfl ?_
            cases h
            exact fj_ri rfl rfl
          · rw [if_neg hc5] at h
            refine fj_bf rfl (decide_eq_false hc5) ?_
            refine fj_blk 7 (119, 33, [some (.inr (20, 0)), some (.inl a1), some (.inl a2)], [(.inl ((8 * a1) + a2)), (.inr (37, 0))], q4.2) rfl ?_
            by_cases hc6 : ((8 * a1) + a2) < 0 ∨ 48 ≤ ((8 * a1) + a2).toNatClampNeg
            · rw [if_pos hc6] at h
              cases h
            rw [if_neg hc6] at h
            refine fj_ald rfl rfl hc6 ?_
            refine fj_blk 1 (119, 38, [some (.inr (20, 0)), some (.inl a1), some (.inl a2)], [(.inl (q4.2.2 37 0 (((8 * a1) + a2).toNatClampNeg)))], q4.2) rfl ?_
            cases h
            exact fj_ri rfl rfl
/-- X6_memory -/
def dm_120 (a1 : Int32) (M : fj_M) : Option (Int32 × fj_M) := ((dm_78 a1 0 63 M).bind fun q1 => (if q1.1 = 0 then some (0, q1.2) else (if a1 < 0 ∨ 64 ≤ a1.toNatClampNeg then none else some (q1.2.2 22 0 a1.toNatClampNeg, q1.2))))
set_option maxRecDepth 40000 in
theorem de_120 (X : fj_X) (a1 : Int32) (M : fj_M) (r : (Int32 × fj_M)) (h : dm_120 a1 M = some r) : fj_ev X (120, 0, [some (.inr (20, 0)), some (.inl a1)], [], M) (some r.1, r.2) := by
    unfold dm_120 at h
    refine fj_blk 3 (120, 4, [some (.inr (20, 0)), some (.inl a1)], [(.inl 63), (.inl 0), (.inl a1)], M) rfl ?_
    cases hq1 : dm_78 a1 0 63 M with
    | none => rw [hq1] at h; cases h
    | some q1 =>
      rw [hq1, Option.bind_some] at h
      refine fj_cl rfl (de_78 X a1 0 63 M _ hq1) ?_
      by_cases hc2 : q1.1 = 0
      · rw [if_pos hc2] at h
        refine fj_bt rfl (decide_eq_true hc2) ?_
        refine fj_blk 1 (120, 20, [some (.inr (20, 0)), some (.inl a1)], [(.inl 0)], q1.2) rfl ?_
        cases h
        exact fj_ri rfl rfl
      · rw [if_neg hc2] at h
        refine fj_bf rfl (decide_eq_false hc2) ?_
        refine fj_blk 3 (120, 15, [some (.inr (20, 0)), some (.inl a1)], [(.inl a1), (.inr (22, 0))], q1.2) rfl ?_
        by_cases hc3 : a1 < 0 ∨ 64 ≤ a1.toNatClampNeg
        · rw [if_pos hc3] at h
          cases h
        rw [if_neg hc3] at h
        refine fj_ald rfl rfl hc3 ?_
        refine fj_blk 1 (120, 20, [some (.inr (20, 0)), some (.inl a1)], [(.inl (q1.2.2 22 0 a1.toNatClampNeg))], q1.2) rfl ?_
        cases h
        exact fj_ri rfl rfl
/-- X6_record -/
def dm_121 (a1 : Int32) (M : fj_M) : Option (Int32 × fj_M) := ((dm_78 a1 0 299 M).bind fun q1 => (if q1.1 = 0 then some (0, q1.2) else (if (q1.2.2 20 0 18) ≤ a1 then some (0, q1.2) else (if a1 < 0 ∨ 300 ≤ a1.toNatClampNeg then none else some (q1.2.2 38 0 a1.toNatClampNeg, q1.2)))))
set_option maxRecDepth 40000 in
theorem de_121 (X : fj_X) (a1 : Int32) (M : fj_M) (r : (Int32 × fj_M)) (h : dm_121 a1 M = some r) : fj_ev X (121, 0, [some (.inr (20, 0)), some (.inl a1)], [], M) (some r.1, r.2) := by
    unfold dm_121 at h
    refine fj_blk 3 (121, 5, [some (.inr (20, 0)), some (.inl a1)], [(.inl 299), (.inl 0), (.inl a1)], M) rfl ?_
    cases hq1 : dm_78 a1 0 299 M with
    | none => rw [hq1] at h; cases h
    | some q1 =>
      rw [hq1, Option.bind_some] at h
      refine fj_cl rfl (de_78 X a1 0 299 M _ hq1) ?_
      by_cases hc2 : q1.1 = 0
      · rw [if_pos hc2] at h
        refine fj_bt rfl (decide_eq_true hc2) ?_
        refine fj_blk 1 (121, 29, [some (.inr (20, 0)), some (.inl a1)], [(.inl 0)], q1.2) rfl ?_
        cases h
        exact fj_ri rfl rfl
      · rw [if_neg hc2] at h
        refine fj_bf rfl (decide_eq_false hc2) ?_
        refine fj_blk 3 (121, 16, [some (.inr (20, 0)), some (.inl a1)], [(.inl (q1.2.2 20 0 18)), (.inl a1)], q1.2) rfl ?_
        by_cases hc3 : (q1.2.2 20 0 18) ≤ a1
        · rw [if_pos hc3] at h
          refine fj_bt rfl (decide_eq_true hc3) ?_
          refine fj_blk 1 (121, 29, [some (.inr (20, 0)), some (.inl a1)], [(.inl 0)], q1.2) rfl ?_
          cases h
          exact fj_ri rfl rfl
        · rw [if_neg hc3] at h
          refine fj_bf rfl (decide_eq_false hc3) ?_
          refine fj_blk 3 (121, 24, [some (.inr (20, 0)), some (.inl a1)], [(.inl a1), (.inr (38, 0))], q1.2) rfl ?_
          by_cases hc4 : a1 < 0 ∨ 300 ≤ a1.toNatClampNeg
          · rw [if_pos hc4] at h
            cases h
          rw [if_neg hc4] at h
          refine fj_ald rfl rfl hc4 ?_
          refine fj_blk 1 (121, 29, [some (.inr (20, 0)), some (.inl a1)], [(.inl (q1.2.2 38 0 a1.toNatClampNeg))], q1.2) rfl ?_
          cases h
          exact fj_ri rfl rfl
def dm_122_48  (rec7 : Int32 → Int32 → Int32 → Int32 → fj_M → Option (Int32 × fj_M)) (a1 : Int32) (a2 : Int32) (a3 : Int32) (a4 : Int32) (s0 : Int32) (s1 : Int32) (M : fj_M) : Option (Int32 × fj_M) := rec7 a1 a2 (s1 + s0) (a4 + 1) M
set_option maxRecDepth 40000 in
theorem de_122_48 (X : fj_X) (rec7 : Int32 → Int32 → Int32 → Int32 → fj_M → Option (Int32 × fj_M)) (hrec7 : ∀ (a1 : Int32) (a2 : Int32) (a3 : Int32) (a4 : Int32) (M : fj_M) (r : (Int32 × fj_M)), rec7 a1 a2 a3 a4 M = some r → fj_ev X (122, 7, [some (.inr (20, 0)), some (.inl a1), some (.inl a2), some (.inl a3), some (.inl a4)], [], M) (some r.1, r.2)) (a1 : Int32) (a2 : Int32) (a3 : Int32) (a4 : Int32) (s0 : Int32) (s1 : Int32) (M : fj_M) (r : (Int32 × fj_M)) (h : dm_122_48 rec7 a1 a2 a3 a4 s0 s1 M = some r) : fj_ev X (122, 48, [some (.inr (20, 0)), some (.inl a1), some (.inl a2), some (.inl a3), some (.inl a4)], [(.inl s0), (.inl s1)], M) (some r.1, r.2) := by
    unfold dm_122_48 at h
    refine fj_blk 4 (122, 7, [some (.inr (20, 0)), some (.inl a1), some (.inl a2), some (.inl (s1 + s0)), some (.inl (a4 + 1))], [], M) rfl ?_
    exact hrec7 a1 a2 (s1 + s0) (a4 + 1) M r h
def dm_122_29  (rec7 : Int32 → Int32 → Int32 → Int32 → fj_M → Option (Int32 × fj_M)) (a1 : Int32) (a2 : Int32) (a3 : Int32) (a4 : Int32) (s0 : Int32) (s1 : Int32) (M : fj_M) : Option (Int32 × fj_M) := (if a4 < 0 ∨ 12 ≤ a4.toNatClampNeg then none else (if (M.2 23 0 a4.toNatClampNeg) = 1 then dm_122_48 rec7 a1 (s1 + s0) a3 a4 1 a3 M else dm_122_48 rec7 a1 (s1 + s0) a3 a4 0 a3 M))
set_option maxRecDepth 40000 in
theorem de_122_29 (X : fj_X) (rec7 : Int32 → Int32 → Int32 → Int32 → fj_M → Option (Int32 × fj_M)) (hrec7 : ∀ (a1 : Int32) (a2 : Int32) (a3 : Int32) (a4 : Int32) (M : fj_M) (r : (Int32 × fj_M)), rec7 a1 a2 a3 a4 M = some r → fj_ev X (122, 7, [some (.inr (20, 0)), some (.inl a1), some (.inl a2), some (.inl a3), some (.inl a4)], [], M) (some r.1, r.2)) (a1 : Int32) (a2 : Int32) (a3 : Int32) (a4 : Int32) (s0 : Int32) (s1 : Int32) (M : fj_M) (r : (Int32 × fj_M)) (h : dm_122_29 rec7 a1 a2 a3 a4 s0 s1 M = some r) : fj_ev X (122, 29, [some (.inr (20, 0)), some (.inl a1), some (.inl a2), some (.inl a3), some (.inl a4)], [(.inl s0), (.inl s1)], M) (some r.1, r.2) := by
    unfold dm_122_29 at h
    refine fj_blk 6 (122, 38, [some (.inr (20, 0)), some (.inl a1), some (.inl (s1 + s0)), some (.inl a3), some (.inl a4)], [(.inl a4), (.inr (23, 0)), (.inl a3)], M) rfl ?_
    by_cases hc1 : a4 < 0 ∨ 12 ≤ a4.toNatClampNeg
    · rw [if_pos hc1] at h
      cases h
    rw [if_neg hc1] at h
    refine fj_ald rfl rfl hc1 ?_
    refine fj_blk 1 (122, 40, [some (.inr (20, 0)), some (.inl a1), some (.inl (s1 + s0)), some (.inl a3), some (.inl a4)], [(.inl 1), (.inl (M.2 23 0 a4.toNatClampNeg)), (.inl a3)], M) rfl ?_
    by_cases hc2 : (M.2 23 0 a4.toNatClampNeg) = 1
    · rw [if_pos hc2] at h
      refine fj_bf rfl (fj_nf hc2) ?_
      refine fj_blk 2 (122, 48, [some (.inr (20, 0)), some (.inl a1), some (.inl (s1 + s0)), some (.inl a3), some (.inl a4)], [(.inl 1), (.inl a3)], M) rfl ?_
      exact de_122_48 X rec7 hrec7 a1 (s1 + s0) a3 a4 1 a3 M r h
    · rw [if_neg hc2] at h
      refine fj_bt rfl (fj_nt hc2) ?_
      refine fj_blk 1 (122, 48, [some (.inr (20, 0)), some (.inl a1), some (.inl (s1 + s0)), some (.inl a3), some (.inl a4)], [(.inl 0), (.inl a3)], M) rfl ?_
      exact de_122_48 X rec7 hrec7 a1 (s1 + s0) a3 a4 0 a3 M r h
def dm_122_7  : Nat → Int32 → Int32 → Int32 → Int32 → fj_M → Option (Int32 × fj_M)
  | 0, _, _, _, _, _ => none
  | n + 1, a1, a2, a3, a4, M => (if 12 ≤ a4 then (if a1 = 0 then some (M.2 20 0 19, M) else (if a1 = 1 then some (M.2 20 0 20, M) else (if a1 = 2 then some (M.2 20 0 21, M) else (if a1 = 3 then some (M.2 20 0 18, M) else (if a1 = 4 then some (a2, M) else (if a1 = 5 then some (a3, M) else (if a1 = 6 then some (M.2 20 0 24, M) else (if a1 = 7 then some (M.2 20 0 25, M) else some ((-2), M))))))))) else ((dm_82 a4 M).bind fun q10 => (if q10.1 = 0 then dm_122_29 (dm_122_7 n) a1 a2 a3 a4 0 a2 q10.2 else dm_122_29 (dm_122_7 n) a1 a2 a3 a4 1 a2 q10.2)))
set_option maxRecDepth 40000 in
theorem de_122_7 (X : fj_X) : ∀ (n : Nat) (a1 : Int32) (a2 : Int32) (a3 : Int32) (a4 : Int32) (M : fj_M) (r : (Int32 × fj_M)), dm_122_7 n a1 a2 a3 a4 M = some r → fj_ev X (122, 7, [some (.inr (20, 0)), some (.inl a1), some (.inl a2), some (.inl a3), some (.inl a4)], [], M) (some r.1, r.2)
  | 0, _, _, _, _, _, r, h => by cases h
  | n + 1, a1, a2, a3, a4, M, r, h => by
    unfold dm_122_7 at h
    refine fj_blk 2 (122, 11, [some (.inr (20, 0)), some (.inl a1), some (.inl a2), some (.inl a3), some (.inl a4)], [(.inl 12), (.inl a4)], M) rfl ?_
    by_cases hc1 : 12 ≤ a4
    · rw [if_pos hc1] at h
      refine fj_bt rfl (decide_eq_true hc1) ?_
      refine fj_blk 1 (122, 57, [some (.inr (20, 0)), some (.inl a1), some (.inl a2), some (.inl a3), some (.inl a4)], [(.inl a1)], M) rfl ?_
      by_cases hc2 : a1 = 0
      · rw [if_pos hc2] at h
        refine fj_swg (t := 104) rfl (by rw [hc2]; rfl) ?_
        refine fj_blk 2 (122, 108, [some (.inr (20, 0)), some (.inl a1), some (.inl a2), some (.inl a3), some (.inl a4)], [(.inl (M.2 20 0 19))], M) rfl ?_
        cases h
        exact fj_ri rfl rfl
      · rw [if_neg hc2] at h
        by_cases hc3 : a1 = 1
        · rw [if_pos hc3] at h
          refine fj_swg (t := 109) rfl (by rw [hc3]; rfl) ?_
          refine fj_blk 2 (122, 113, [some (.inr (20, 0)), some (.inl a1), some (.inl a2), some (.inl a3), some (.inl a4)], [(.inl (M.2 20 0 20))], M) rfl ?_
          cases h
          exact fj_ri rfl rfl
        · rw [if_neg hc3] at h
          by_cases hc4 : a1 = 2
          · rw [if_pos hc4] at h
            refine fj_swg (t := 114) rfl (by rw [hc4]; rfl) ?_
            refine fj_blk 2 (122, 118, [some (.inr (20, 0)), some (.inl a1), some (.inl a2), some (.inl a3), some (.inl a4)], [(.inl (M.2 20 0 21))], M) rfl ?_
            cases h
            exact fj_ri rfl rfl
          · rw [if_neg hc4] at h
            by_cases hc5 : a1 = 3
            · rw [if_pos hc5] at h
              refine fj_swg (t := 119) rfl (by rw [hc5]; rfl) ?_
              refine fj_blk 2 (122, 123, [some (.inr (20, 0)), some (.inl a1), some (.inl a2), some (.inl a3), some (.inl a4)], [(.inl (M.2 20 0 18))], M) rfl ?_
              cases h
              exact fj_ri rfl rfl
            · rw [if_neg hc5] at h
              by_cases hc6 : a1 = 4
              · rw [if_pos hc6] at h
                refine fj_swg (t := 124) rfl (by rw [hc6]; rfl) ?_
                refine fj_blk 1 (122, 125, [some (.inr (20, 0)), some (.inl a1), some (.inl a2), some (.inl a3), some (.inl a4)], [(.inl a2)], M) rfl ?_
                cases h
                exact fj_ri rfl rfl
              · rw [if_neg hc6] at h
                by_cases hc7 : a1 = 5
                · rw [if_pos hc7] at h
                  refine fj_swg (t := 126) rfl (by rw [hc7]; rfl) ?_
                  refine fj_blk 1 (122, 127, [some (.inr (20, 0)), some (.inl a1), some (.inl a2), some (.inl a3), some (.inl a4)], [(.inl a3)], M) rfl ?_
                  cases h
                  exact fj_ri rfl rfl
                · rw [if_neg hc7] at h
                  by_cases hc8 : a1 = 6
                  · rw [if_pos hc8] at h
                    refine fj_swg (t := 128) rfl (by rw [hc8]; rfl) ?_
                    refine fj_blk 2 (122, 132, [some (.inr (20, 0)), some (.inl a1), some (.inl a2), some (.inl a3), some (.inl a4)], [(.inl (M.2 20 0 24))], M) rfl ?_
                    cases h
                    exact fj_ri rfl rfl
                  · rw [if_neg hc8] at h
                    by_cases hc9 : a1 = 7
                    · rw [if_pos hc9] at h
                      refine fj_swg (t := 133) rfl (by rw [hc9]; rfl) ?_
                      refine fj_blk 2 (122, 137, [some (.inr (20, 0)), some (.inl a1), some (.inl a2), some (.inl a3), some (.inl a4)], [(.inl (M.2 20 0 25))], M) rfl ?_
                      cases h
                      exact fj_ri rfl rfl
                    · rw [if_neg hc9] at h
                      refine fj_swg (t := 138) rfl (by simp only [fj_sw, hc2, hc3, hc4, hc5, hc6, hc7, hc8, hc9, if_false]) ?_
                      refine fj_blk 1 (122, 140, [some (.inr (20, 0)), some (.inl a1), some (.inl a2), some (.inl a3), some (.inl a4)], [(.inl (-2))], M) rfl ?_
                      cases h
                      exact fj_ri rfl rfl
    · rw [if_neg hc1] at h
      refine fj_bf rfl (decide_eq_false hc1) ?_
      refine fj_blk 3 (122, 18, [some (.inr (20, 0)), some (.inl a1), some (.inl a2), some (.inl a3), some (.inl a4)], [(.inl a4), (.inr (20, 0)), (.inl a2)], M) rfl ?_
      cases hq10 : dm_82 a4 M with
      | none => rw [hq10] at h; cases h
      | some q10 =>
        rw [hq10, Option.bind_some] at h
        refine fj_cl rfl (de_82 X a4 M _ hq10) ?_
        by_cases hc11 : q10.1 = 0
        · rw [if_pos hc11] at h
          refine fj_bt rfl (decide_eq_true hc11) ?_
          refine fj_blk 1 (122, 29, [some (.inr (20, 0)), some (.inl a1), some (.inl a2), some (.inl a3), some (.inl a4)], [(.inl 0), (.inl a2)], q10.2) rfl ?_
          exact de_122_29 X (dm_122_7 n) (de_122_7 X n) a1 a2 a3 a4 0 a2 q10.2 r h
        · rw [if_neg hc11] at h
          refine fj_bf rfl (decide_eq_false hc11) ?_
          refine fj_blk 2 (122, 29, [some (.inr (20, 0)), some (.inl a1), some (.inl a2), some (.inl a3), some (.inl a4)], [(.inl 1), (.inl a2)], q10.2) rfl ?_
          exact de_122_29 X (dm_122_7 n) (de_122_7 X n) a1 a2 a3 a4 1 a2 q10.2 r h
/-- X6_told -/
def dm_122 (a1 : Int32) (M : fj_M) : Option (Int32 × fj_M) := dm_122_7 40 a1 0 0 0 M
set_option maxRecDepth 40000 in
theorem de_122 (X : fj_X) (a1 : Int32) (M : fj_M) (r : (Int32 × fj_M)) (h : dm_122 a1 M = some r) : fj_ev X (122, 0, [some (.inr (20, 0)), some (.inl a1), none, none, none], [], M) (some r.1, r.2) := by
    unfold dm_122 at h
    refine fj_blk 6 (122, 7, [some (.inr (20, 0)), some (.inl a1), some (.inl 0), some (.inl 0), some (.inl 0)], [], M) rfl ?_
    exact de_122_7 X 40 a1 0 0 0 M r h
