/-! METHODS AS FUNCTIONS: by program -/
def dm_123_621 (X : fj_X)  (rec18 : Int32 → fj_M → Option (Int32 × fj_M)) (a3 : Int32) (M : fj_M) : Option (Int32 × fj_M) := rec18 (a3 + 3) M
set_option maxRecDepth 40000 in
theorem de_123_621 (X : fj_X) (rec18 : Int32 → fj_M → Option (Int32 × fj_M)) (hrec18 : ∀ (a3 : Int32) (M : fj_M) (r : (Int32 × fj_M)), rec18 a3 M = some r → fj_ev X (123, 18, [some (.inr (42, 0)), some (.inr (0, 0)), some (.inr (20, 0)), some (.inl a3)], [], M) (some r.1, r.2)) (a3 : Int32) (M : fj_M) (r : (Int32 × fj_M)) (h : dm_123_621 X rec18 a3 M = some r) : fj_ev X (123, 621, [some (.inr (42, 0)), some (.inr (0, 0)), some (.inr (20, 0)), some (.inl a3)], [], M) (some r.1, r.2) := by
    unfold dm_123_621 at h
    refine fj_blk 2 (123, 18, [some (.inr (42, 0)), some (.inr (0, 0)), some (.inr (20, 0)), some (.inl (a3 + 3))], [], M) rfl ?_
    exact hrec18 (a3 + 3) M r h
def dm_123_18 (X : fj_X)  : Nat → Int32 → fj_M → Option (Int32 × fj_M)
  | 0, _, _ => none
  | n + 1, a3, M => (if ((Int32.ofNat X.1) - 3) < a3 then some (1, M) else (if a3 < 0 ∨ X.1 ≤ a3.toNatClampNeg then none else (if ((X.2 a3.toNatClampNeg) &&& 31) = 0 then (if (a3 + 1) < 0 ∨ X.1 ≤ (a3 + 1).toNatClampNeg then none else (if (a3 + 2) < 0 ∨ X.1 ≤ (a3 + 2).toNatClampNeg then none else ((dm_16 (X.2 ((a3 + 1).toNatClampNeg)) (X.2 ((a3 + 2).toNatClampNeg)) M).bind fun q6 => (if (a3 + 1) < 0 ∨ X.1 ≤ (a3 + 1).toNatClampNeg then none else (if (a3 + 2) < 0 ∨ X.1 ≤ (a3 + 2).toNatClampNeg then none else ((dm_79 (X.2 ((a3 + 1).toNatClampNeg)) (X.2 ((a3 + 2).toNatClampNeg)) q6.2).bind fun q9 => (if q6.1 = q9.1 then dm_123_621 X (dm_123_18 X n) a3 q9.2 else some (0, q9.2)))))))) else (if ((X.2 a3.toNatClampNeg) &&& 31) = 1 then (if (a3 + 1) < 0 ∨ X.1 ≤ (a3 + 1).toNatClampNeg then none else ((dm_17 (X.2 ((a3 + 1).toNatClampNeg)) M).bind fun q13 => (if (a3 + 1) < 0 ∨ X.1 ≤ (a3 + 1).toNatClampNeg then none else ((dm_80 (X.2 ((a3 + 1).toNatClampNeg)) q13.2).bind fun q15 => (if q13.1 = q15.1 then dm_123_621 X (dm_123_18 X n) a3 q15.2 else some (0, q15.2)))))) else (if ((X.2 a3.toNatClampNeg) &&& 31) = 2 then (if (a3 + 1) < 0 ∨ X.1 ≤ (a3 + 1).toNatClampNeg then none else (if (a3 + 2) < 0 ∨ X.1 ≤ (a3 + 2).toNatClampNeg then none else ((dm_18 (X.2 ((a3 + 1).toNatClampNeg)) (X.2 ((a3 + 2).toNatClampNeg)) M).bind fun q20 => (if (a3 + 1) < 0 ∨ X.1 ≤ (a3 + 1).toNatClampNeg then none else (if (a3 + 2) < 0 ∨ X.1 ≤ (a3 + 2).toNatClampNeg then none else ((dm_81 (X.2 ((a3 + 1).toNatClampNeg)) (X.2 ((a3 + 2).toNatClampNeg)) q20.2).bind fun q23 => (if q20.1 = q23.1 then dm_123_621 X (dm_123_18 X n) a3 q23.2 else some (0, q23.2)))))))) else (if ((X.2 a3.toNatClampNeg) &&& 31) = 3 then (if (a3 + 1) < 0 ∨ X.1 ≤ (a3 + 1).toNatClampNeg then none else (if (a3 + 2) < 0 ∨ X.1 ≤ (a3 + 2).toNatClampNeg then none else ((dm_19 (X.2 ((a3 + 1).toNatClampNeg)) (X.2 ((a3 + 2).toNatClampNeg)) M).bind fun q28 => (if (a3 + 1) < 0 ∨ X.1 ≤ (a3 + 1).toNatClampNeg then none else (if (a3 + 2) < 0 ∨ X.1 ≤ (a3 + 2).toNatClampNeg then none else ((dm_85 (X.2 ((a3 + 1).toNatClampNeg)) (X.2 ((a3 + 2).toNatClampNeg)) q28.2).bind fun q31 => (if q28.1 = q31.1 then dm_123_621 X (dm_123_18 X n) a3 q31.2 else some (0, q31.2)))))))) else (if ((X.2 a3.toNatClampNeg) &&& 31) = 4 then (if (a3 + 1) < 0 ∨ X.1 ≤ (a3 + 1).toNatClampNeg then none else ((dm_20 (X.2 ((a3 + 1).toNatClampNeg)) M).bind fun q35 => (if (a3 + 1) < 0 ∨ X.1 ≤ (a3 + 1).toNatClampNeg then none else ((dm_86 (X.2 ((a3 + 1).toNatClampNeg)) q35.2).bind fun q37 => (if q35.1 = q37.1 then dm_123_621 X (dm_123_18 X n) a3 q37.2 else some (0, q37.2)))))) else (if ((X.2 a3.toNatClampNeg) &&& 31) = 5 then (if (a3 + 1) < 0 ∨ X.1 ≤ (a3 + 1).toNatClampNeg then none else (if (a3 + 2) < 0 ∨ X.1 ≤ (a3 + 2).toNatClampNeg then none else ((dm_21 (X.2 ((a3 + 1).toNatClampNeg)) (X.2 ((a3 + 2).toNatClampNeg)) M).bind fun q42 => (if (a3 + 1) < 0 ∨ X.1 ≤ (a3 + 1).toNatClampNeg then none else (if (a3 + 2) < 0 ∨ X.1 ≤ (a3 + 2).toNatClampNeg then none else ((dm_88 (X.2 ((a3 + 1).toNatClampNeg)) (X.2 ((a3 + 2).toNatClampNeg)) q42.2).bind fun q45 => (if q42.1 = q45.1 then dm_123_621 X (dm_123_18 X n) a3 q45.2 else some (0, q45.2)))))))) else (if ((X.2 a3.toNatClampNeg) &&& 31) = 6 then (if (a3 + 1) < 0 ∨ X.1 ≤ (a3 + 1).toNatClampNeg then none else (if (a3 + 2) < 0 ∨ X.1 ≤ (a3 + 2).toNatClampNeg then none else ((dm_22 (X.2 ((a3 + 1).toNatClampNeg)) (X.2 ((a3 + 2).toNatClampNeg)) M).bind fun q50 => (if (a3 + 1) < 0 ∨ X.1 ≤ (a3 + 1).toNatClampNeg then none else (if (a3 + 2) < 0 ∨ X.1 ≤ (a3 + 2).toNatClampNeg then none else ((dm_91 (X.2 ((a3 + 1).toNatClampNeg)) (X.2 ((a3 + 2).toNatClampNeg)) q50.2).bind fun q53 => (if q50.1 = q53.1 then dm_123_621 X (dm_123_18 X n) a3 q53.2 else some (0, q53.2)))))))) else (if ((X.2 a3.toNatClampNeg) &&& 31) = 7 then (if (a3 + 1) < 0 ∨ X.1 ≤ (a3 + 1).toNatClampNeg then none else ((dm_23 (X.2 ((a3 + 1).toNatClampNeg)) M).bind fun q57 => (if (a3 + 1) < 0 ∨ X.1 ≤ (a3 + 1).toNatClampNeg then none else ((dm_92 (X.2 ((a3 + 1).toNatClampNeg)) q57.2).bind fun q59 => (if q57.1 = q59.1 then dm_123_621 X (dm_123_18 X n) a3 q59.2 else some (0, q59.2)))))) else (if ((X.2 a3.toNatClampNeg) &&& 31) = 8 then ((dm_24 M).bind fun q62 => ((dm_97 q62.2).bind fun q63 => (if q62.1 = q63.1 then dm_123_621 X (dm_123_18 X n) a3 q63.2 else some (0, q63.2)))) else (if ((X.2 a3.toNatClampNeg) &&& 31) = 9 then (if (a3 + 1) < 0 ∨ X.1 ≤ (a3 + 1).toNatClampNeg then none else ((dm_25 (X.2 ((a3 + 1).toNatClampNeg)) M).bind fun q67 => (if (a3 + 1) < 0 ∨ X.1 ≤ (a3 + 1).toNatClampNeg then none else ((dm_98 (X.2 ((a3 + 1).toNatClampNeg)) q67.2).bind fun q69 => (if q67.1 = q69.1 then dm_123_621 X (dm_123_18 X n) a3 q69.2 else some (0, q69.2)))))) else (if ((X.2 a3.toNatClampNeg) &&& 31) = 10 then ((dm_26 M).bind fun q72 => ((dm_113 q72.2).bind fun q73 => (if q72.1 = q73.1 then dm_123_621 X (dm_123_18 X n) a3 q73.2 else some (0, q73.2)))) else (if ((X.2 a3.toNatClampNeg) &&& 31) = 11 then (if (a3 + 1) < 0 ∨ X.1 ≤ (a3 + 1).toNatClampNeg then none else ((dm_27 (X.2 ((a3 + 1).toNatClampNeg)) M).bind fun q77 => (if (a3 + 1) < 0 ∨ X.1 ≤ (a3 + 1).toNatClampNeg then none else ((dm_115 (X.2 ((a3 + 1).toNatClampNeg)) q77.2).bind fun q79 => (if q77.1 = q79.1 then dm_123_621 X (dm_123_18 X n) a3 q79.2 else some (0, q79.2)))))) else (if ((X.2 a3.toNatClampNeg) &&& 31) = 12 then (if (a3 + 1) < 0 ∨ X.1 ≤ (a3 + 1).toNatClampNeg then none else (if (a3 + 2) < 0 ∨ X.1 ≤ (a3 + 2).toNatClampNeg then none else ((dm_28 (X.2 ((a3 + 1).toNatClampNeg)) (X.2 ((a3 + 2).toNatClampNeg)) M).bind fun q84 => (if (a3 + 1) < 0 ∨ X.1 ≤ (a3 + 1).toNatClampNeg then none else (if (a3 + 2) < 0 ∨ X.1 ≤ (a3 + 2).toNatClampNeg then none else ((dm_116 (X.2 ((a3 + 1).toNatClampNeg)) (X.2 ((a3 + 2).toNatClampNeg)) q84.2).bind fun q87 => (if q84.1 = q87.1 then dm_123_621 X (dm_123_18 X n) a3 q87.2 else some (0, q87.2)))))))) else (if ((X.2 a3.toNatClampNeg) &&& 31) = 13 then (if (a3 + 1) < 0 ∨ X.1 ≤ (a3 + 1).toNatClampNeg then none else (if (a3 + 2) < 0 ∨ X.1 ≤ (a3 + 2).toNatClampNeg then none else ((dm_29 (X.2 ((a3 + 1).toNatClampNeg)) (X.2 ((a3 + 2).toNatClampNeg)) M).bind fun q92 => (if (a3 + 1) < 0 ∨ X.1 ≤ (a3 + 1).toNatClampNeg then none else (if (a3 + 2) < 0 ∨ X.1 ≤ (a3 + 2).toNatClampNeg then none else ((dm_117 (X.2 ((a3 + 1).toNatClampNeg)) (X.2 ((a3 + 2).toNatClampNeg)) q92.2).bind fun q95 => (if q92.1 = q95.1 then dm_123_621 X (dm_123_18 X n) a3 q95.2 else some (0, q95.2)))))))) else (if ((X.2 a3.toNatClampNeg) &&& 31) = 14 then (if (a3 + 1) < 0 ∨ X.1 ≤ (a3 + 1).toNatClampNeg then none else ((dm_30 (X.2 ((a3 + 1).toNatClampNeg)) M).bind fun q99 => (if (a3 + 1) < 0 ∨ X.1 ≤ (a3 + 1).toNatClampNeg then none else ((dm_118 (X.2 ((a3 + 1).toNatClampNeg)) q99.2).bind fun q101 => (if q99.1 = q101.1 then dm_123_621 X (dm_123_18 X n) a3 q101.2 else some (0, q101.2)))))) else (if ((X.2 a3.toNatClampNeg) &&& 31) = 15 then (if (a3 + 1) < 0 ∨ X.1 ≤ (a3 + 1).toNatClampNeg then none else (if (a3 + 2) < 0 ∨ X.1 ≤ (a3 + 2).toNatClampNeg then none else ((dm_31 (X.2 ((a3 + 1).toNatClampNeg)) (X.2 ((a3 + 2).toNatClampNeg)) M).bind fun q106 => (if (a3 + 1) < 0 ∨ X.1 ≤ (a3 + 1).toNatClampNeg then none else (if (a3 + 2) < 0 ∨ X.1 ≤ (a3 + 2).toNatClampNeg then none else ((dm_119 (X.2 ((a3 + 1).toNatClampNeg)) (X.2 ((a3 + 2).toNatClampNeg)) q106.2).bind fun q109 => (if q106.1 = q109.1 then dm_123_621 X (dm_123_18 X n) a3 q109.2 else some (0, q109.2)))))))) else (if ((X.2 a3.toNatClampNeg) &&& 31) = 16 then (if (a3 + 1) < 0 ∨ X.1 ≤ (a3 + 1).toNatClampNeg then none else ((dm_32 (X.2 ((a3 + 1).toNatClampNeg)) M).bind fun q113 => (if (a3 + 1) < 0 ∨ X.1 ≤ (a3 + 1).toNatClampNeg then none else ((dm_120 (X.2 ((a3 + 1).toNatClampNeg)) q113.2).bind fun q115 => (if q113.1 = q115.1 then dm_123_621 X (dm_123_18 X n) a3 q115.2 else some (0, q115.2)))))) else (if ((X.2 a3.toNatClampNeg) &&& 31) = 17 then (if (a3 + 1) < 0 ∨ X.1 ≤ (a3 + 1).toNatClampNeg then none else ((dm_33 (X.2 ((a3 + 1).toNatClampNeg)) M).bind fun q119 => (if (a3 + 1) < 0 ∨ X.1 ≤ (a3 + 1).toNatClampNeg then none else ((dm_121 (X.2 ((a3 + 1).toNatClampNeg)) q119.2).bind fun q121 => (if q119.1 = q121.1 then dm_123_621 X (dm_123_18 X n) a3 q121.2 else some (0, q121.2)))))) else (if ((X.2 a3.toNatClampNeg) &&& 31) = 18 then (if (a3 + 1) < 0 ∨ X.1 ≤ (a3 + 1).toNatClampNeg then none else ((dm_34 (X.2 ((a3 + 1).toNatClampNeg)) M).bind fun q125 => (if (a3 + 1) < 0 ∨ X.1 ≤ (a3 + 1).toNatClampNeg then none else ((dm_122 (X.2 ((a3 + 1).toNatClampNeg)) q125.2).bind fun q127 => (if q125.1 = q127.1 then dm_123_621 X (dm_123_18 X n) a3 q127.2 else some (0, q127.2)))))) else dm_123_621 X (dm_123_18 X n) a3 M)))))))))))))))))))))
set_option maxRecDepth 40000 in
theorem de_123_18 (X : fj_X) : ∀ (n : Nat) (a3 : Int32) (M : fj_M) (r : (Int32 × fj_M)), dm_123_18 X n a3 M = some r → fj_ev X (123, 18, [some (.inr (42, 0)), some (.inr (0, 0)), some (.inr (20, 0)), some (.inl a3)], [], M) (some r.1, r.2)
  | 0, _, _, r, h => by cases h
  | n + 1, a3, M, r, h => by
    unfold dm_123_18 at h
    refine fj_blk 5 (123, 23, [some (.inr (42, 0)), some (.inr (0, 0)), some (.inr (20, 0)), some (.inl a3)], [(.inl ((Int32.ofNat X.1) - 3)), (.inl a3)], M) rfl ?_
    by_cases hc1 : ((Int32.ofNat X.1) - 3) < a3
    · rw [if_pos hc1] at h
      refine fj_bt rfl (decide_eq_true hc1) ?_
      refine fj_blk 1 (123, 628, [some (.inr (42, 0)), some (.inr (0, 0)), some (.inr (20, 0)), some (.inl a3)], [(.inl 1)], M) rfl ?_
      cases h
      exact fj_rz rfl rfl (Or.inr rfl)
    · rw [if_neg hc1] at h
      refine fj_bf rfl (decide_eq_false hc1) ?_
      refine fj_blk 2 (123, 28, [some (.inr (42, 0)), some (.inr (0, 0)), some (.inr (20, 0)), some (.inl a3)], [(.inl a3), (.inr (42, 0))], M) rfl ?_
      by_cases hc2 : a3 < 0 ∨ X.1 ≤ a3.toNatClampNeg
      · rw [if_pos hc2] at h
        cases h
      rw [if_neg hc2] at h
      refine fj_ald rfl rfl hc2 ?_
      refine fj_blk 2 (123, 32, [some (.inr (42, 0)), some (.inr (0, 0)), some (.inr (20, 0)), some (.inl a3)], [(.inl ((X.2 a3.toNatClampNeg) &&& 31))], M) rfl ?_
      by_cases hc3 : ((X.2 a3.toNatClampNeg) &&& 31) = 0
      · rw [if_pos hc3] at h
        refine fj_swg (t := 124) rfl (by rw [hc3]; rfl) ?_
        refine fj_blk 5 (123, 129, [some (.inr (42, 0)), some (.inr (0, 0)), some (.inr (20, 0)), some (.inl a3)], [(.inl (a3 + 1)), (.inr (42, 0)), (.inr (0, 0))], M) rfl ?_
        by_cases hc4 : (a3 + 1) < 0 ∨ X.1 ≤ (a3 + 1).toNatClampNeg
        · rw [if_pos hc4] at h
          cases h
        rw [if_neg hc4] at h
        refine fj_ald rfl rfl hc4 ?_
        refine fj_blk 4 (123, 134, [some (.inr (42, 0)), some (.inr (0, 0)), some (.inr (20, 0)), some (.inl a3)], [(.inl (a3 + 2)), (.inr (42, 0)), (.inl (X.2 ((a3 + 1).toNatClampNeg))), (.inr (0, 0))], M) rfl ?_
        by_cases hc5 : (a3 + 2) < 0 ∨ X.1 ≤ (a3 + 2).toNatClampNeg
        · rw [if_pos hc5] at h
          cases h
        rw [if_neg hc5] at h
        refine fj_ald rfl rfl hc5 ?_
        cases hq6 : dm_16 (X.2 ((a3 + 1).toNatClampNeg)) (X.2 ((a3 + 2).toNatClampNeg)) M with
        | none => rw [hq6] at h; cases h
        | some q6 =>
          rw [hq6, Option.bind_some] at h
          refine fj_cl rfl (de_16 X (X.2 ((a3 + 1).toNatClampNeg)) (X.2 ((a3 + 2).toNatClampNeg)) M _ hq6) ?_
          refine fj_blk 5 (123, 143, [some (.inr (42, 0)), some (.inr (0, 0)), some (.inr (20, 0)), some (.inl a3)], [(.inl (a3 + 1)), (.inr (42, 0)), (.inr (20, 0)), (.inl q6.1)], q6.2) rfl ?_
          by_cases hc7 : (a3 + 1) < 0 ∨ X.1 ≤ (a3 + 1).toNatClampNeg
          · rw [if_pos hc7] at h
            cases h
          rw [if_neg hc7] at h
          refine fj_ald rfl rfl hc7 ?_
          refine fj_blk 4 (123, 148, [some (.inr (42, 0)), some (.inr (0, 0)), some (.inr (20, 0)), some (.inl a3)], [(.inl (a3 + 2)), (.inr (42, 0)), (.inl (X.2 ((a3 + 1).toNatClampNeg))), (.inr (20, 0)), (.inl q6.1)], q6.2) rfl ?_
          by_cases hc8 : (a3 + 2) < 0 ∨ X.1 ≤ (a3 + 2).toNatClampNeg
          · rw [if_pos hc8] at h
            cases h
          rw [if_neg hc8] at h
          refine fj_ald rfl rfl hc8 ?_
          cases hq9 : dm_79 (X.2 ((a3 + 1).toNatClampNeg)) (X.2 ((a3 + 2).toNatClampNeg)) q6.2 with
          | none => rw [hq9] at h; cases h
          | some q9 =>
            rw [hq9, Option.bind_some] at h
            refine fj_cl rfl (de_79 X (X.2 ((a3 + 1).toNatClampNeg)) (X.2 ((a3 + 2).toNatClampNeg)) q6.2 _ hq9) ?_
            by_cases hc10 : q6.1 = q9.1
            · rw [if_pos hc10] at h
              refine fj_bt rfl (decide_eq_true hc10) ?_
              exact de_123_621 X (dm_123_18 X n) (de_123_18 X n) a3 q9.2 r h
            · rw [if_neg hc10] at h
              refine fj_bf rfl (decide_eq_false hc10) ?_
              refine fj_blk 1 (123, 156, [some (.inr (42, 0)), some (.inr (0, 0)), some (.inr (20, 0)), some (.inl a3)], [(.inl 0)], q9.2) rfl ?_
              cases h
              exact fj_rz rfl rfl (Or.inl rfl)
      · rw [if_neg hc3] at h
        by_cases hc11 : ((X.2 a3.toNatClampNeg) &&& 31) = 1
        · rw [if_pos hc11] at h
          refine fj_swg (t := 157) rfl (by rw [hc11]; rfl) ?_
          refine fj_blk 5 (123, 162, [some (.inr (42, 0)), some (.inr (0, 0)), some (.inr (20, 0)), some (.inl a3)], [(.inl (a3 + 1)), (.inr (42, 0)), (.inr (0, 0))], M) rfl ?_
          by_cases hc12 : (a3 + 1) < 0 ∨ X.1 ≤ (a3 + 1).toNatClampNeg
          · rw [if_pos hc12] at h
            cases h
          rw [if_neg hc12] at h
          refine fj_ald rfl rfl hc12 ?_
          cases hq13 : dm_17 (X.2 ((a3 + 1).toNatClampNeg)) M with
          | none => rw [hq13] at h; cases h
          | some q13 =>
            rw [hq13, Option.bind_some] at h
            refine fj_cl rfl (de_17 X (X.2 ((a3 + 1).toNatClampNeg)) M _ hq13) ?_
            refine fj_blk 5 (123, 171, [some (.inr (42, 0)), some (.inr (0, 0)), some (.inr (20, 0)), some (.inl a3)], [(.inl (a3 + 1)), (.inr (42, 0)), (.inr (20, 0)), (.inl q13.1)], q13.2) rfl ?_
            by_cases hc14 : (a3 + 1) < 0 ∨ X.1 ≤ (a3 + 1).toNatClampNeg
            · rw [if_pos hc14] at h
              cases h
            rw [if_neg hc14] at h
            refine fj_ald rfl rfl hc14 ?_
            cases hq15 : dm_80 (X.2 ((a3 + 1).toNatClampNeg)) q13.2 with
            | none => rw [hq15] at h; cases h
            | some q15 =>
              rw [hq15, Option.bind_some] at h
              refine fj_cl rfl (de_80 X (X.2 ((a3 + 1).toNatClampNeg)) q13.2 _ hq15) ?_
              by_cases hc16 : q13.1 = q15.1
              · rw [if_pos hc16] at h
                refine fj_bt rfl (decide_eq_true hc16) ?_
                exact de_123_621 X (dm_123_18 X n) (de_123_18 X n) a3 q15.2 r h
              · rw [if_neg hc16] at h
                refine fj_bf rfl (decide_eq_false hc16) ?_
                refine fj_blk 1 (123, 179, [some (.inr (42, 0)), some (.inr (0, 0)), some (.inr (20, 0)), some (.inl a3)], [(.inl 0)], q15.2) rfl ?_
                cases h
                exact fj_rz rfl rfl (Or.inl rfl)
        · rw [if_neg hc11] at h
          by_cases hc17 : ((X.2 a3.toNatClampNeg) &&& 31) = 2
          · rw [if_pos hc17] at h
            refine fj_swg (t := 180) rfl (by rw [hc17]; rfl) ?_
            refine fj_blk 5 (123, 185, [some (.inr (42, 0)), some (.inr (0, 0)), some (.inr (20, 0)), some (.inl a3)], [(.inl (a3 + 1)), (.inr (42, 0)), (.inr (0, 0))], M) rfl ?_
            by_cases hc18 : (a3 + 1) < 0 ∨ X.1 ≤ (a3 + 1).toNatClampNeg
            · rw [if_pos hc18] at h
              cases h
            rw [if_neg hc18] at h
            refine fj_ald rfl rfl hc18 ?_
            refine fj_blk 4 (123, 190, [some (.inr (42, 0)), some (.inr (0, 0)), some (.inr (20, 0)), some (.inl a3)], [(.inl (a3 + 2)), (.inr (42, 0)), (.inl (X.2 ((a3 + 1).toNatClampNeg))), (.inr (0, 0))], M) rfl ?_
            by_cases hc19 : (a3 + 2) < 0 ∨ X.1 ≤ (a3 + 2).toNatClampNeg
            · rw [if_pos hc19] at h
              cases h
            rw [if_neg hc19] at h
            refine fj_ald rfl rfl hc19 ?_
            cases hq20 : dm_18 (X.2 ((a3 + 1).toNatClampNeg)) (X.2 ((a3 + 2).toNatClampNeg)) M with
            | none => rw [hq20] at h; cases h
            | some q20 =>
              rw [hq20, Option.bind_some] at h
              refine fj_cl rfl (de_18 X (X.2 ((a3 + 1).toNatClampNeg)) (X.2 ((a3 + 2).toNatClampNeg)) M _ hq20) ?_
              refine fj_blk 5 (123, 199, [some (.inr (42, 0)), some (.inr (0, 0)), some (.inr (20, 0)), some (.inl a3)], [(.inl (a3 + 1)), (.inr (42, 0)), (.inr (20, 0)), (.inl q20.1)], q20.2) rfl ?_
              by_cases hc21 : (a3 + 1) < 0 ∨ X.1 ≤ (a3 + 1).toNatClampNeg
              · rw [if_pos hc21] at h
                cases h
              rw [if_neg hc21] at h
              refine fj_ald rfl rfl hc21 ?_
              refine fj_blk 4 (123, 204, [some (.inr (42, 0)), some (.inr (0, 0)), some (.inr (20, 0)), some (.inl a3)], [(.inl (a3 + 2)), (.inr (42, 0)), (.inl (X.2 ((a3 + 1).toNatClampNeg))), (.inr (20, 0)), (.inl q20.1)], q20.2) rfl ?_
              by_cases hc22 : (a3 + 2) < 0 ∨ X.1 ≤ (a3 + 2).toNatClampNeg
              · rw [if_pos hc22] at h
                cases h
              rw [if_neg hc22] at h
              refine fj_ald rfl rfl hc22 ?_
              cases hq23 : dm_81 (X.2 ((a3 + 1).toNatClampNeg)) (X.2 ((a3 + 2).toNatClampNeg)) q20.2 with
              | none => rw [hq23] at h; cases h
              | some q23 =>
                rw [hq23, Option.bind_some] at h
                refine fj_cl rfl (de_81 X (X.2 ((a3 + 1).toNatClampNeg)) (X.2 ((a3 + 2).toNatClampNeg)) q20.2 _ hq23) ?_
                by_cases hc24 : q20.1 = q23.1
                · rw [if_pos hc24] at h
                  refine fj_bt rfl (decide_eq_true hc24) ?_
                  exact de_123_621 X (dm_123_18 X n) (de_123_18 X n) a3 q23.2 r h
                · rw [if_neg hc24] at h
                  refine fj_bf rfl (decide_eq_false hc24) ?_
                  refine fj_blk 1 (123, 212, [some (.inr (42, 0)), some (.inr (0, 0)), some (.inr (20, 0)), some (.inl a3)], [(.inl 0)], q23.2) rfl ?_
                  cases h
                  exact fj_rz rfl rfl (Or.inl rfl)
          · rw [if_neg hc17] at h
            by_cases hc25 : ((X.2 a3.toNatClampNeg) &&& 31) = 3
            · rw [if_pos hc25] at h
              refine fj_swg (t := 213) rfl (by rw [hc25]; rfl) ?_
              refine fj_blk 5 (123, 218, [some (.inr (42, 0)), some (.inr (0, 0)), some (.inr (20, 0)), some (.inl a3)], [(.inl (a3 + 1)), (.inr (42, 0)), (.inr (0, 0))], M) rfl ?_
              by_cases hc26 : (a3 + 1) < 0 ∨ X.1 ≤ (a3 + 1).toNatClampNeg
              · rw [if_pos hc26] at h
                cases h
              rw [if_neg hc26] at h
              refine fj_ald rfl rfl hc26 ?_
              refine fj_blk 4 (123, 223, [some (.inr (42, 0)), some (.inr (0, 0)), some (.inr (20, 0)), some (.inl a3)], [(.inl (a3 + 2)), (.inr (42, 0)), (.inl (X.2 ((a3 + 1).toNatClampNeg))), (.inr (0, 0))], M) rfl ?_
              by_cases hc27 : (a3 + 2) < 0 ∨ X.1 ≤ (a3 + 2).toNatClampNeg
              · rw [if_pos hc27] at h
                cases h
              rw [if_neg hc27] at h
              refine fj_ald rfl rfl hc27 ?_
              cases hq28 : dm_19 (X.2 ((a3 + 1).toNatClampNeg)) (X.2 ((a3 + 2).toNatClampNeg)) M with
              | none => rw [hq28] at h; cases h
              | some q28 =>
                rw [hq28, Option.bind_some] at h
                refine fj_cl rfl (de_19 X (X.2 ((a3 + 1).toNatClampNeg)) (X.2 ((a3 + 2).toNatClampNeg)) M _ hq28) ?_
                refine fj_blk 5 (123, 232, [some (.inr (42, 0)), some (.inr (0, 0)), some (.inr (20, 0)), some (.inl a3)], [(.inl (a3 + 1)), (.inr (42, 0)), (.inr (20, 0)), (.inl q28.1)], q28.2) rfl ?_
                by_cases hc29 : (a3 + 1) < 0 ∨ X.1 ≤ (a3 + 1).toNatClampNeg
                · rw [if_pos hc29] at h
                  cases h
                rw [if_neg hc29] at h
                refine fj_ald rfl rfl hc29 ?_
                refine fj_blk 4 (123, 237, [some (.inr (42, 0)), some (.inr (0, 0)), some (.inr (20, 0)), some (.inl a3)], [(.inl (a3 + 2)), (.inr (42, 0)), (.inl (X.2 ((a3 + 1).toNatClampNeg))), (.inr (20, 0)), (.inl q28.1)], q28.2) rfl ?_
                by_cases hc30 : (a3 + 2) < 0 ∨ X.1 ≤ (a3 + 2).toNatClampNeg
                · rw [if_pos hc30] at h
                  cases h
                rw [if_neg hc30] at h
                refine fj_ald rfl rfl hc30 ?_
                cases hq31 : dm_85 (X.2 ((a3 + 1).toNatClampNeg)) (X.2 ((a3 + 2).toNatClampNeg)) q28.2 with
                | none => rw [hq31] at h; cases h
                | some q31 =>
                  rw [hq31, Option.bind_some] at h
                  refine fj_cl rfl (de_85 X (X.2 ((a3 + 1).toNatClampNeg)) (X.2 ((a3 + 2).toNatClampNeg)) q28.2 _ hq31) ?_
                  by_cases hc32 : q28.1 = q31.1
                  · rw [if_pos hc32] at h
                    refine fj_bt rfl (decide_eq_true hc32) ?_
                    exact de_123_621 X (dm_123_18 X n) (de_123_18 X n) a3 q31.2 r h
                  · rw [if_neg hc32] at h
                    refine fj_bf rfl (decide_eq_false hc32) ?_
                    refine fj_blk 1 (123, 245, [some (.inr (42, 0)), some (.inr (0, 0)), some (.inr (20, 0)), some (.inl a3)], [(.inl 0)], q31.2) rfl ?_
                    cases h
                    exact fj_rz rfl rfl (Or.inl rfl)
            · rw [if_neg hc25] at h
              by_cases hc33 : ((X.2 a3.toNatClampNeg) &&& 31) = 4
              · rw [if_pos hc33] at h
                refine fj_swg (t := 246) rfl (by rw [hc33]; rfl) ?_
                refine fj_blk 5 (123, 251, [some (.inr (42, 0)), some (.inr (0, 0)), some (.inr (20, 0)), some (.inl a3)], [(.inl (a3 + 1)), (.inr (42, 0)), (.inr (0, 0))], M) rfl ?_
                by_cases hc34 : (a3 + 1) < 0 ∨ X.1 ≤ (a3 + 1).toNatClampNeg
                · rw [if_pos hc34] at h
                  cases h
                rw [if_neg hc34] at h
                refine fj_ald rfl rfl hc34 ?_
                cases hq35 : dm_20 (X.2 ((a3 + 1).toNatClampNeg)) M with
                | none => rw [hq35] at h; cases h
                | some q35 =>
                  rw [hq35, Option.bind_some] at h
                  refine fj_cl rfl (de_20 X (X.2 ((a3 + 1).toNatClampNeg)) M _ hq35) ?_
                  refine fj_blk 5 (123, 260, [some (.inr (42, 0)), some (.inr (0, 0)), some (.inr (20, 0)), some (.inl a3)], [(.inl (a3 + 1)), (.inr (42, 0)), (.inr (20, 0)), (.inl q35.1)], q35.2) rfl ?_
                  by_cases hc36 : (a3 + 1) < 0 ∨ X.1 ≤ (a3 + 1).toNatClampNeg
                  · rw [if_pos hc36] at h
                    cases h
                  rw [if_neg hc36] at h
                  refine fj_ald rfl rfl hc36 ?_
                  cases hq37 : dm_86 (X.2 ((a3 + 1).toNatClampNeg)) q35.2 with
                  | none => rw [hq37] at h; cases h
                  | some q37 =>
                    rw [hq37, Option.bind_some] at h
                    refine fj_cl rfl (de_86 X (X.2 ((a3 + 1).toNatClampNeg)) q35.2 _ hq37) ?_
                    by_cases hc38 : q35.1 = q37.1
                    · rw [if_pos hc38] at h
                      refine fj_bt rfl (decide_eq_true hc38) ?_
                      exact de_123_621 X (dm_123_18 X n) (de_123_18 X n) a3 q37.2 r h
                    · rw [if_neg hc38] at h
                      refine fj_bf rfl (decide_eq_false hc38) ?_
                      refine fj_blk 1 (123, 268, [some (.inr (42, 0)), some (.inr (0, 0)), some (.inr (20, 0)), some (.inl a3)], [(.inl 0)], q37.2) rfl ?_
                      cases h
                      exact fj_rz rfl rfl (Or.inl rfl)
              · rw [if_neg hc33] at h
                by_cases hc39 : ((X.2 a3.toNatClampNeg) &&& 31) = 5
                · rw [if_pos hc39] at h
                  refine fj_swg (t := 269) rfl (by rw [hc39]; rfl) ?_
                  refine fj_blk 5 (123, 274, [some (.inr (42, 0)), some (.inr (0, 0)), some (.inr (20, 0)), some (.inl a3)], [(.inl (a3 + 1)), (.inr (42, 0)), (.inr (0, 0))], M) rfl ?_
                  by_cases hc40 : (a3 + 1) < 0 ∨ X.1 ≤ (a3 + 1).toNatClampNeg
                  · rw [if_pos hc40] at h
                    cases h
                  rw [if_neg hc40] at h
                  refine fj_ald rfl rfl hc40 ?_
                  refine fj_blk 4 (123, 279, [some (.inr (42, 0)), some (.inr (0, 0)), some (.inr (20, 0)), some (.inl a3)], [(.inl (a3 + 2)), (.inr (42, 0)), (.inl (X.2 ((a3 + 1).toNatClampNeg))), (.inr (0, 0))], M) rfl ?_
                  by_cases hc41 : (a3 + 2) < 0 ∨ X.1 ≤ (a3 + 2).toNatClampNeg
                  · rw [if_pos hc41] at h
                    cases h
                  rw [if_neg hc41] at h
                  refine fj_ald rfl rfl hc41 ?_
                  cases hq42 : dm_21 (X.2 ((a3 + 1).toNatClampNeg)) (X.2 ((a3 + 2).toNatClampNeg)) M with
                  | none => rw [hq42] at h; cases h
                  | some q42 =>
                    rw [hq42, Option.bind_some] at h
                    refine fj_cl rfl (de_21 X (X.2 ((a3 + 1).toNatClampNeg)) (X.2 ((a3 + 2).toNatClampNeg)) M _ hq42) ?_
                    refine fj_blk 5 (123, 288, [some (.inr (42, 0)), some (.inr (0, 0)), some (.inr (20, 0)), some (.inl a3)], [(.inl (a3 + 1)), (.inr (42, 0)), (.inr (20, 0)), (.inl q42.1)], q42.2) rfl ?_
                    by_cases hc43 : (a3 + 1) < 0 ∨ X.1 ≤ (a3 + 1).toNatClampNeg
                    · rw [if_pos hc43] at h
                      cases h
                    rw [if_neg hc43] at h
                    refine fj_ald rfl rfl hc43 ?_
                    refine fj_blk 4 (123, 293, [some (.inr (42, 0)), some (.inr (0, 0)), some (.inr (20, 0)), some (.inl a3)], [(.inl (a3 + 2)), (.inr (42, 0)), (.inl (X.2 ((a3 + 1).toNatClampNeg))), (.inr (20, 0)), (.inl q42.1)], q42.2) rfl ?_
                    by_cases hc44 : (a3 + 2) < 0 ∨ X.1 ≤ (a3 + 2).toNatClampNeg
                    · rw [if_pos hc44] at h
                      cases h
                    rw [if_neg hc44] at h
                    refine fj_ald rfl rfl hc44 ?_
                    cases hq45 : dm_88 (X.2 ((a3 + 1).toNatClampNeg)) (X.2 ((a3 + 2).toNatClampNeg)) q42.2 with
                    | none => rw [hq45] at h; cases h
                    | some q45 =>
                      rw [hq45, Option.bind_some] at h
                      refine fj_cl rfl (de_88 X (X.2 ((a3 + 1).toNatClampNeg)) (X.2 ((a3 + 2).toNatClampNeg)) q42.2 _ hq45) ?_
                      by_cases hc46 : q42.1 = q45.1
                      · rw [if_pos hc46] at h
                        refine fj_bt rfl (decide_eq_true hc46) ?_
                        exact de_123_621 X (dm_123_18 X n) (de_123_18 X n) a3 q45.2 r h
                      · rw [if_neg hc46] at h
                        refine fj_bf rfl (decide_eq_false hc46) ?_
                        refine fj_blk 1 (123, 301, [some (.inr (42, 0)), some (.inr (0, 0)), some (.inr (20, 0)), some (.inl a3)], [(.inl 0)], q45.2) rfl ?_
                        cases h
                        exact fj_rz rfl rfl (Or.inl rfl)
                · rw [if_neg hc39] at h
                  by_cases hc47 : ((X.2 a3.toNatClampNeg) &&& 31) = 6
                  · rw [if_pos hc47] at h
                    refine fj_swg (t := 302) rfl (by rw [hc47]; rfl) ?_
                    refine fj_blk 5 (123, 307, [some (.inr (42, 0)), some (.inr (0, 0)), some (.inr (20, 0)), some (.inl a3)], [(.inl (a3 + 1)), (.inr (42, 0)), (.inr (0, 0))], M) rfl ?_
                    by_cases hc48 : (a3 + 1) < 0 ∨ X.1 ≤ (a3 + 1).toNatClampNeg
                    · rw [if_pos hc48] at h
                      cases h
                    rw [if_neg hc48] at h
                    refine fj_ald rfl rfl hc48 ?_
                    refine fj_blk 4 (123, 312, [some (.inr (42, 0)), some (.inr (0, 0)), some (.inr (20, 0)), some (.inl a3)], [(.inl (a3 + 2)), (.inr (42, 0)), (.inl (X.2 ((a3 + 1).toNatClampNeg))), (.inr (0, 0))], M) rfl ?_
                    by_cases hc49 : (a3 + 2) < 0 ∨ X.1 ≤ (a3 + 2).toNatClampNeg
                    · rw [if_pos hc49] at h
                      cases h
                    rw [if_neg hc49] at h
                    refine fj_ald rfl rfl hc49 ?_
                    cases hq50 : dm_22 (X.2 ((a3 + 1).toNatClampNeg)) (X.2 ((a3 + 2).toNatClampNeg)) M with
                    | none => rw [hq50] at h; cases h
                    | some q50 =>
                      rw [hq50, Option.bind_some] at h
                      refine fj_cl rfl (de_22 X (X.2 ((a3 + 1).toNatClampNeg)) (X.2 ((a3 + 2).toNatClampNeg)) M _ hq50) ?_
                      refine fj_blk 5 (123, 321, [some (.inr (42, 0)), some (.inr (0, 0)), some (.inr (20, 0)), some (.inl a3)], [(.inl (a3 + 1)), (.inr (42, 0)), (.inr (20, 0)), (.inl q50.1)], q50.2) rfl ?_
                      by_cases hc51 : (a3 + 1) < 0 ∨ X.1 ≤ (a3 + 1).toNatClampNeg
                      · rw [if_pos hc51] at h
                        cases h
                      rw [if_neg hc51] at h
                      refine fj_ald rfl rfl hc51 ?_
                      refine fj_blk 4 (123, 326, [some (.inr (42, 0)), some (.inr (0, 0)), some (.inr (20, 0)), some (.inl a3)], [(.inl (a3 + 2)), (.inr (42, 0)), (.inl (X.2 ((a3 + 1).toNatClampNeg))), (.inr (20, 0)), (.inl q50.1)], q50.2) rfl ?_
                      by_cases hc52 : (a3 + 2) < 0 ∨ X.1 ≤ (a3 + 2).toNatClampNeg
                      · rw [if_pos hc52] at h
                        cases h
                      rw [if_neg hc52] at h
                      refine fj_ald rfl rfl hc52 ?_
                      cases hq53 : dm_91 (X.2 ((a3 + 1).toNatClampNeg)) (X.2 ((a3 + 2).toNatClampNeg)) q50.2 with
                      | none => rw [hq53] at h; cases h
                      | some q53 =>
                        rw [hq53, Option.bind_some] at h
                        refine fj_cl rfl (de_91 X (X.2 ((a3 + 1).toNatClampNeg)) (X.2 ((a3 + 2).toNatClampNeg)) q50.2 _ hq53) ?_
                        by_cases hc54 : q50.1 = q53.1
                        · rw [if_pos hc54] at h
                          refine fj_bt rfl (decide_eq_true hc54) ?_
                          exact de_123_621 X (dm_123_18 X n) (de_123_18 X n) a3 q53.2 r h
                        · rw [if_neg hc54] at h
                          refine fj_bf rfl (decide_eq_false hc54) ?_
                          refine fj_blk 1 (123, 334, [some (.inr (42, 0)), some (.inr (0, 0)), some (.inr (20, 0)), some (.inl a3)], [(.inl 0)], q53.2) rfl ?_
                          cases h
                          exact fj_rz rfl rfl (Or.inl rfl)
                  · rw [if_neg hc47] at h
                    by_cases hc55 : ((X.2 a3.toNatClampNeg) &&& 31) = 7
                    · rw [if_pos hc55] at h
                      refine fj_swg (t := 335) rfl (by rw [hc55]; rfl) ?_
                      refine fj_blk 5 (123, 340, [some (.inr (42, 0)), some (.inr (0, 0)), some (.inr (20, 0)), some (.inl a3)], [(.inl (a3 + 1)), (.inr (42, 0)), (.inr (0, 0))], M) rfl ?_
                      by_cases hc56 : (a3 + 1) < 0 ∨ X.1 ≤ (a3 + 1).toNatClampNeg
                      · rw [if_pos hc56] at h
                        cases h
                      rw [if_neg hc56] at h
                      refine fj_ald rfl rfl hc56 ?_
                      cases hq57 : dm_23 (X.2 ((a3 + 1).toNatClampNeg)) M with
                      | none => rw [hq57] at h; cases h
                      | some q57 =>
                        rw [hq57, Option.bind_some] at h
                        refine fj_cl rfl (de_23 X (X.2 ((a3 + 1).toNatClampNeg)) M _ hq57) ?_
                        refine fj_blk 5 (123, 349, [some (.inr (42, 0)), some (.inr (0, 0)), some (.inr (20, 0)), some (.inl a3)], [(.inl (a3 + 1)), (.inr (42, 0)), (.inr (20, 0)), (.inl q57.1)], q57.2) rfl ?_
                        by_cases hc58 : (a3 + 1) < 0 ∨ X.1 ≤ (a3 + 1).toNatClampNeg
                        · rw [if_pos hc58] at h
                          cases h
                        rw [if_neg hc58] at h
                        refine fj_ald rfl rfl hc58 ?_
                        cases hq59 : dm_92 (X.2 ((a3 + 1).toNatClampNeg)) q57.2 with
                        | none => rw [hq59] at h; cases h
                        | some q59 =>
                          rw [hq59, Option.bind_some] at h
                          refine fj_cl rfl (de_92 X (X.2 ((a3 + 1).toNatClampNeg)) q57.2 _ hq59) ?_
                          by_cases hc60 : q57.1 = q59.1
                          · rw [if_pos hc60] at h
                            refine fj_bt rfl (decide_eq_true hc60) ?_
                            exact de_123_621 X (dm_123_18 X n) (de_123_18 X n) a3 q59.2 r h
                          · rw [if_neg hc60] at h
                            refine fj_bf rfl (decide_eq_false hc60) ?_
                            refine fj_blk 1 (123, 357, [some (.inr (42, 0)), some (.inr (0, 0)), some (.inr (20, 0)), some (.inl a3)], [(.inl 0)], q59.2) rfl ?_
                            cases h
                            exact fj_rz rfl rfl (Or.inl rfl)
                    · rw [if_neg hc55] at h
                      by_cases hc61 : ((X.2 a3.toNatClampNeg) &&& 31) = 8
                      · rw [if_pos hc61] at h
                        refine fj_swg (t := 358) rfl (by rw [hc61]; rfl) ?_
                        refine fj_blk 1 (123, 359, [some (.inr (42, 0)), some (.inr (0, 0)), some (.inr (20, 0)), some (.inl a3)], [(.inr (0, 0))], M) rfl ?_
                        cases hq62 : dm_24 M with
                        | none => rw [hq62] at h; cases h
                        | some q62 =>
                          rw [hq62, Option.bind_some] at h
                          refine fj_cl rfl (de_24 X M _ hq62) ?_
                          refine fj_blk 1 (123, 363, [some (.inr (42, 0)), some (.inr (0, 0)), some (.inr (20, 0)), some (.inl a3)], [(.inr (20, 0)), (.inl q62.1)], q62.2) rfl ?_
                          cases hq63 : dm_97 q62.2 with
                          | none => rw [hq63] at h; cases h
                          | some q63 =>
                            rw [hq63, Option.bind_some] at h
                            refine fj_cl rfl (de_97 X q62.2 _ hq63) ?_
                            by_cases hc64 : q62.1 = q63.1
                            · rw [if_pos hc64] at h
                              refine fj_bt rfl (decide_eq_true hc64) ?_
                              exact de_123_621 X (dm_123_18 X n) (de_123_18 X n) a3 q63.2 r h
                            · rw [if_neg hc64] at h
                              refine fj_bf rfl (decide_eq_false hc64) ?_
                              refine fj_blk 1 (123, 370, [some (.inr (42, 0)), some (.inr (0, 0)), some (.inr (20, 0)), some (.inl a3)], [(.inl 0)], q63.2) rfl ?_
                              cases h
                              exact fj_rz rfl rfl (Or.inl rfl)
                      · rw [if_neg hc61] at h
                        by_cases hc65 : ((X.2 a3.toNatClampNeg) &&& 31) = 9
                        · rw [if_pos hc65] at h
                          refine fj_swg (t := 371) rfl (by rw [hc65]; rfl) ?_
                          refine fj_blk 5 (123, 376, [some (.inr (42, 0)), some (.inr (0, 0)), some (.inr (20, 0)), some (.inl a3)], [(.inl (a3 + 1)), (.inr (42, 0)), (.inr (0, 0))], M) rfl ?_
                          by_cases hc66 : (a3 + 1) < 0 ∨ X.1 ≤ (a3 + 1).toNatClampNeg
                          · rw [if_pos hc66] at h
                            cases h
                          rw [if_neg hc66] at h
                          refine fj_ald rfl rfl hc66 ?_
                          cases hq67 : dm_25 (X.2 ((a3 + 1).toNatClampNeg)) M with
                          | none => rw [hq67] at h; cases h
                          | some q67 =>
                            rw [hq67, Option.bind_some] at h
                            refine fj_cl rfl (de_25 X (X.2 ((a3 + 1).toNatClampNeg)) M _ hq67) ?_
                            refine fj_blk 5 (123, 385, [some (.inr (42, 0)), some (.inr (0, 0)), some (.inr (20, 0)), some (.inl a3)], [(.inl (a3 + 1)), (.inr (42, 0)), (.inr (20, 0)), (.inl q67.1)], q67.2) rfl ?_
                            by_cases hc68 : (a3 + 1) < 0 ∨ X.1 ≤ (a3 + 1).toNatClampNeg
                            · rw [if_pos hc68] at h
                              cases h
                            rw [if_neg hc68] at h
                            refine fj_ald rfl rfl hc68 ?_
                            cases hq69 : dm_98 (X.2 ((a3 + 1).toNatClampNeg)) q67.2 with
                            | none => rw [hq69] at h; cases h
                            | some q69 =>
                              rw [hq69, Option.bind_some] at h
                              refine fj_cl rfl (de_98 X (X.2 ((a3 + 1).toNatClampNeg)) q67.2 _ hq69) ?_
                              by_cases hc70 : q67.1 = q69.1
                              · rw [if_pos hc70] at h
                                refine fj_bt rfl (decide_eq_true hc70) ?_
                                exact de_123_621 X (dm_123_18 X n) (de_123_18 X n) a3 q69.2 r h
                              · rw [if_neg hc70] at h
                                refine fj_bf rfl (decide_eq_false hc70) ?_
                                refine fj_blk 1 (123, 393, [some (.inr (42, 0)), some (.inr (0, 0)), some (.inr (20, 0)), some (.inl a3)], [(.inl 0)], q69.2) rfl ?_
                                cases h
                                exact fj_rz rfl rfl (Or.inl rfl)
                        · rw [if_neg hc65] at h
                          by_cases hc71 : ((X.2 a3.toNatClampNeg) &&& 31) = 10
                          · rw [if_pos hc71] at h
                            refine fj_swg (t := 394) rfl (by rw [hc71]; rfl) ?_
                            refine fj_blk 1 (123, 395, [some (.inr (42, 0)), some (.inr (0, 0)), some (.inr (20, 0)), some (.inl a3)], [(.inr (0, 0))], M) rfl ?_
                            cases hq72 : dm_26 M with
                            | none => rw [hq72] at h; cases h
                            | some q72 =>
                              rw [hq72, Option.bind_some] at h
                              refine fj_cl rfl (de_26 X M _ hq72) ?_
                              refine fj_blk 1 (123, 399, [some (.inr (42, 0)), some (.inr (0, 0)), some (.inr (20, 0)), some (.inl a3)], [(.inr (20, 0)), (.inl q72.1)], q72.2) rfl ?_
                              cases hq73 : dm_113 q72.2 with
                              | none => rw [hq73] at h; cases h
                              | some q73 =>
                                rw [hq73, Option.bind_some] at h
                                refine fj_cl rfl (de_113 X q72.2 _ hq73) ?_
                                by_cases hc74 : q72.1 = q73.1
                                · rw [if_pos hc74] at h
                                  refine fj_bt rfl (decide_eq_true hc74) ?_
                                  exact de_123_621 X (dm_123_18 X n) (de_123_18 X n) a3 q73.2 r h
                                · rw [if_neg hc74] at h
                                  refine fj_bf rfl (decide_eq_false hc74) ?_
                                  refine fj_blk 1 (123, 406, [some (.inr (42, 0)), some (.inr (0, 0)), some (.inr (20, 0)), some (.inl a3)], [(.inl 0)], q73.2) rfl ?_
                                  cases h
                                  exact fj_rz rfl rfl (Or.inl rfl)
                          · rw [if_neg hc71] at h
                            by_cases hc75 : ((X.2 a3.toNatClampNeg) &&& 31) = 11
                            · rw [if_pos hc75] at h
                              refine fj_swg (t := 407) rfl (by rw [hc75]; rfl) ?_
                              refine fj_blk 5 (123, 412, [some (.inr (42, 0)), some (.inr (0, 0)), some (.inr (20, 0)), some (.inl a3)], [(.inl (a3 + 1)), (.inr (42, 0)), (.inr (0, 0))], M) rfl ?_
                              by_cases hc76 : (a3 + 1) < 0 ∨ X.1 ≤ (a3 + 1).toNatClampNeg
                              · rw [if_pos hc76] at h
                                cases h
                              rw [if_neg hc76] at h
                              refine fj_ald rfl rfl hc76 ?_
                              cases hq77 : dm_27 (X.2 ((a3 + 1).toNatClampNeg)) M with
                              | none => rw [hq77] at h; cases h
                              | some q77 =>
                                rw [hq77, Option.bind_some] at h
                                refine fj_cl rfl (de_27 X (X.2 ((a3 + 1).toNatClampNeg)) M _ hq77) ?_
                                refine fj_blk 5 (123, 421, [some (.inr (42, 0)), some (.inr (0, 0)), some (.inr (20, 0)), some (.inl a3)], [(.inl (a3 + 1)), (.inr (42, 0)), (.inr (20, 0)), (.inl q77.1)], q77.2) rfl ?_
                                by_cases hc78 : (a3 + 1) < 0 ∨ X.1 ≤ (a3 + 1).toNatClampNeg
                                · rw [if_pos hc78] at h
                                  cases h
                                rw [if_neg hc78] at h
                                refine fj_ald rfl rfl hc78 ?_
                                cases hq79 : dm_115 (X.2 ((a3 + 1).toNatClampNeg)) q77.2 with
                                | none => rw [hq79] at h; cases h
                                | some q79 =>
                                  rw [hq79, Option.bind_some] at h
                                  refine fj_cl rfl (de_115 X (X.2 ((a3 + 1).toNatClampNeg)) q77.2 _ hq79) ?_
                                  by_cases hc80 : q77.1 = q79.1
                                  · rw [if_pos hc80] at h
                                    refine fj_bt rfl (decide_eq_true hc80) ?_
                                    exact de_123_621 X (dm_123_18 X n) (de_123_18 X n) a3 q79.2 r h
                                  · rw [if_neg hc80] at h
                                    refine fj_bf rfl (decide_eq_false hc80) ?_
                                    refine fj_blk 1 (123, 429, [some (.inr (42, 0)), some (.inr (0, 0)), some (.inr (20, 0)), some (.inl a3)], [(.inl 0)], q79.2) rfl ?_
                                    cases h
                                    exact fj_rz rfl rfl (Or.inl rfl)
                            · rw [if_neg hc75] at h
                              by_cases hc81 : ((X.2 a3.toNatClampNeg) &&& 31) = 12
                              · rw [if_pos hc81] at h
                                refine fj_swg (t := 430) rfl (by rw [hc81]; rfl) ?_
                                refine fj_blk 5 (123, 435, [some (.inr (42, 0)), some (.inr (0, 0)), some (.inr (20, 0)), some (.inl a3)], [(.inl (a3 + 1)), (.inr (42, 0)), (.inr (0, 0))], M) rfl ?_
                                by_cases hc82 : (a3 + 1) < 0 ∨ X.1 ≤ (a3 + 1).toNatClampNeg
                                · rw [if_pos hc82] at h
                                  cases h
                                rw [if_neg hc82] at h
                                refine fj_ald rfl rfl hc82 ?_
                                refine fj_blk 4 (123, 440, [some (.inr (42, 0)), some (.inr (0, 0)), some (.inr (20, 0)), some (.inl a3)], [(.inl (a3 + 2)), (.inr (42, 0)), (.inl (X.2 ((a3 + 1).toNatClampNeg))), (.inr (0, 0))], M) rfl ?_
                                by_cases hc83 : (a3 + 2) < 0 ∨ X.1 ≤ (a3 + 2).toNatClampNeg
                                · rw [if_pos hc83] at h
                                  cases h
                                rw [if_neg hc83] at h
                                refine fj_ald rfl rfl hc83 ?_
                                cases hq84 : dm_28 (X.2 ((a3 + 1).toNatClampNeg)) (X.2 ((a3 + 2).toNatClampNeg)) M with
                                | none => rw [hq84] at h; cases h
                                | some q84 =>
                                  rw [hq84, Option.bind_some] at h
                                  refine fj_cl rfl (de_28 X (X.2 ((a3 + 1).toNatClampNeg)) (X.2 ((a3 + 2).toNatClampNeg)) M _ hq84) ?_
                                  refine fj_blk 5 (123, 449, [some (.inr (42, 0)), some (.inr (0, 0)), some (.inr (20, 0)), some (.inl a3)], [(.inl (a3 + 1)), (.inr (42, 0)), (.inr (20, 0)), (.inl q84.1)], q84.2) rfl ?_
                                  by_cases hc85 : (a3 + 1) < 0 ∨ X.1 ≤ (a3 + 1).toNatClampNeg
                                  · rw [if_pos hc85] at h
                                    cases h
                                  rw [if_neg hc85] at h
                                  refine fj_ald rfl rfl hc85 ?_
                                  refine fj_blk 4 (123, 454, [some (.inr (42, 0)), some (.inr (0, 0)), some (.inr (20, 0)), some (.inl a3)], [(.inl (a3 + 2)), (.inr (42, 0)), (.inl (X.2 ((a3 + 1).toNatClampNeg))), (.inr (20, 0)), (.inl q84.1)], q84.2) rfl ?_
                                  by_cases hc86 : (a3 + 2) < 0 ∨ X.1 ≤ (a3 + 2).toNatClampNeg
                                  · rw [if_pos hc86] at h
                                    cases h
                                  rw [if_neg hc86] at h
                                  refine fj_ald rfl rfl hc86 ?_
                                  cases hq87 : dm_116 (X.2 ((a3 + 1).toNatClampNeg)) (X.2 ((a3 + 2).toNatClampNeg)) q84.2 with
                                  | none => rw [hq87] at h; cases h
                                  | some q87 =>
                                    rw [hq87, Option.bind_some] at h
                                    refine fj_cl rfl (de_116 X (X.2 ((a3 + 1).toNatClampNeg)) (X.2 ((a3 + 2).toNatClampNeg)) q84.2 _ hq87) ?_
                                    by_cases hc88 : q84.1 = q87.1
                                    · rw [if_pos hc88] at h
                                      refine fj_bt rfl (decide_eq_true hc88) ?_
                                      exact de_123_621 X (dm_123_18 X n) (de_123_18 X n) a3 q87.2 r h
                                    · rw [if_neg hc88] at h
                                      refine fj_bf rfl (decide_eq_false hc88) ?_
                                      refine fj_blk 1 (123, 462, [some (.inr (42, 0)), some (.inr (0, 0)), some (.inr (20, 0)), some (.inl a3)], [(.inl 0)], q87.2) rfl ?_
                                      cases h
                                      exact fj_rz rfl rfl (Or.inl rfl)
                              · rw [if_neg hc81] at h
                                by_cases hc89 : ((X.2 a3.toNatClampNeg) &&& 31) = 13
                                · rw [if_pos hc89] at h
                                  refine fj_swg (t := 463) rfl (by rw [hc89]; rfl) ?_
                                  refine fj_blk 5 (123, 468, [some (.inr (42, 0)), some (.inr (0, 0)), some (.inr (20, 0)), some (.inl a3)], [(.inl (a3 + 1)), (.inr (42, 0)), (.inr (0, 0))], M) rfl ?_
                                  by_cases hc90 : (a3 + 1) < 0 ∨ X.1 ≤ (a3 + 1).toNatClampNeg
                                  · rw [if_pos hc90] at h
                                    cases h
                                  rw [if_neg hc90] at h
                                  refine fj_ald rfl rfl hc90 ?_
                                  refine fj_blk 4 (123, 473, [some (.inr (42, 0)), some (.inr (0, 0)), some (.inr (20, 0)), some (.inl a3)], [(.inl (a3 + 2)), (.inr (42, 0)), (.inl (X.2 ((a3 + 1).toNatClampNeg))), (.inr (0, 0))], M) rfl ?_
                                  by_cases hc91 : (a3 + 2) < 0 ∨ X.1 ≤ (a3 + 2).toNatClampNeg
                                  · rw [if_pos hc91] at h
                                    cases h
                                  rw [if_neg hc91] at h
                                  refine fj_ald rfl rfl hc91 ?_
                                  cases hq92 : dm_29 (X.2 ((a3 + 1).toNatClampNeg)) (X.2 ((a3 + 2).toNatClampNeg)) M with
                                  | none => rw [hq92] at h; cases h
                                  | some q92 =>
                                    rw [hq92, Option.bind_some] at h
                                    refine fj_cl rfl (de_29 X (X.2 ((a3 + 1).toNatClampNeg)) (X.2 ((a3 + 2).toNatClampNeg)) M _ hq92) ?_
                                    refine fj_blk 5 (123, 482, [some (.inr (42, 0)), some (.inr (0, 0)), some (.inr (20, 0)), some (.inl a3)], [(.inl (a3 + 1)), (.inr (42, 0)), (.inr (20, 0)), (.inl q92.1)], q92.2) rfl ?_
                                    by_cases hc93 : (a3 + 1) < 0 ∨ X.1 ≤ (a3 + 1).toNatClampNeg
                                    · rw [if_pos hc93] at h
                                      cases h
                                    rw [if_neg hc93] at h
                                    refine fj_ald rfl rfl hc93 ?_
                                    refine fj_blk 4 (123, 487, [some (.inr (42, 0)), some (.inr (0, 0)), some (.inr (20, 0)), some (.inl a3)], [(.inl (a3 + 2)), (.inr (42, 0)), (.inl (X.2 ((a3 + 1).toNatClampNeg))), (.inr (20, 0)), (.inl q92.1)], q92.2) rfl ?_
                                    by_cases hc94 : (a3 + 2) < 0 ∨ X.1 ≤ (a3 + 2).toNatClampNeg
                                    · rw [if_pos hc94] at h
                                      cases h
                                    rw [if_neg hc94] at h
                                    refine fj_ald rfl rfl hc94 ?_
                                    cases hq95 : dm_117 (X.2 ((a3 + 1).toNatClampNeg)) (X.2 ((a3 + 2).toNatClampNeg)) q92.2 with
                                    | none => rw [hq95] at h; cases h
                                    | some q95 =>
                                      rw [hq95, Option.bind_some] at h
                                      refine fj_cl rfl (de_117 X (X.2 ((a3 + 1).toNatClampNeg)) (X.2 ((a3 + 2).toNatClampNeg)) q92.2 _ hq95) ?_
                                      by_cases hc96 : q92.1 = q95.1
                                      · rw [if_pos hc96] at h
                                        refine fj_bt rfl (decide_eq_true hc96) ?_
                                        exact de_123_621 X (dm_123_18 X n) (de_123_18 X n) a3 q95.2 r h
                                      · rw [if_neg hc96] at h
                                        refine fj_bf rfl (decide_eq_false hc96) ?_
                                        refine fj_blk 1 (123, 495, [some (.inr (42, 0)), some (.inr (0, 0)), some (.inr (20, 0)), some (.inl a3)], [(.inl 0)], q95.2) rfl ?_
                                        cases h
                                        exact fj_rz rfl rfl (Or.inl rfl)
                                · rw [if_neg hc89] at h
                                  by_cases hc97 : ((X.2 a3.toNatClampNeg) &&& 31) = 14
                                  · rw [if_pos hc97] at h
                                    refine fj_swg (t := 496) rfl (by rw [hc97]; rfl) ?_
                                    refine fj_blk 5 (123, 501, [some (.inr (42, 0)), some (.inr (0, 0)), some (.inr (20, 0)), some (.inl a3)], [(.inl (a3 + 1)), (.inr (42, 0)), (.inr (0, 0))], M) rfl ?_
                                    by_cases hc98 : (a3 + 1) < 0 ∨ X.1 ≤ (a3 + 1).toNatClampNeg
                                    · rw [if_pos hc98] at h
                                      cases h
                                    rw [if_neg hc98] at h
                                    refine fj_ald rfl rfl hc98 ?_
                                    cases hq99 : dm_30 (X.2 ((a3 + 1).toNatClampNeg)) M with
                                    | none => rw [hq99] at h; cases h
                                    | some q99 =>
                                      rw [hq99, Option.bind_some] at h
                                      refine fj_cl rfl (de_30 X (X.2 ((a3 + 1).toNatClampNeg)) M _ hq99) ?_
                                      refine fj_blk 5 (123, 510, [some (.inr (42, 0)), some (.inr (0, 0)), some (.inr (20, 0)), some (.inl a3)], [(.inl (a3 + 1)), (.inr (42, 0)), (.inr (20, 0)), (.inl q99.1)], q99.2) rfl ?_
                                      by_cases hc100 : (a3 + 1) < 0 ∨ X.1 ≤ (a3 + 1).toNatClampNeg
                                      · rw [if_pos hc100] at h
                                        cases h
                                      rw [if_neg hc100] at h
                                      refine fj_ald rfl rfl hc100 ?_
                                      cases hq101 : dm_118 (X.2 ((a3 + 1).toNatClampNeg)) q99.2 with
                                      | none => rw [hq101] at h; cases h
                                      | some q101 =>
                                        rw [hq101, Option.bind_some] at h
                                        refine fj_cl rfl (de_118 X (X.2 ((a3 + 1).toNatClampNeg)) q99.2 _ hq101) ?_
                                        by_cases hc102 : q99.1 = q101.1
                                        · rw [if_pos hc102] at h
                                          refine fj_bt rfl (decide_eq_true hc102) ?_
                                          exact de_123_621 X (dm_123_18 X n) (de_123_18 X n) a3 q101.2 r h
                                        · rw [if_neg hc102] at h
                                          refine fj_bf rfl (decide_eq_false hc102) ?_
                                          refine fj_blk 1 (123, 518, [some (.inr (42, 0)), some (.inr (0, 0)), some (.inr (20, 0)), some (.inl a3)], [(.inl 0)], q101.2) rfl ?_
                                          cases h
                                          exact fj_rz rfl rfl (Or.inl rfl)
                                  · rw [if_neg hc97] at h
                                    by_cases hc103 : ((X.2 a3.toNatClampNeg) &&& 31) = 15
                                    · rw [if_pos hc103] at h
                                      refine fj_swg (t := 519) rfl (by rw [hc103]; rfl) ?_
                                      refine fj_blk 5 (123, 524, [some (.inr (42, 0)), some (.inr (0, 0)), some (.inr (20, 0)), some (.inl a3)], [(.inl (a3 + 1)), (.inr (42, 0)), (.inr (0, 0))], M) rfl ?_
                                      by_cases hc104 : (a3 + 1) < 0 ∨ X.1 ≤ (a3 + 1).toNatClampNeg
                                      · rw [if_pos hc104] at h
                                        cases h
                                      rw [if_neg hc104] at h
                                      refine fj_ald rfl rfl hc104 ?_
                                      refine fj_blk 4 (123, 529, [some (.inr (42, 0)), some (.inr (0, 0)), some (.inr (20, 0)), some (.inl a3)], [(.inl (a3 + 2)), (.inr (42, 0)), (.inl (X.2 ((a3 + 1).toNatClampNeg))), (.inr (0, 0))], M) rfl ?_
                                      by_cases hc105 : (a3 + 2) < 0 ∨ X.1 ≤ (a3 + 2).toNatClampNeg
                                      · rw [if_pos hc105] at h
                                        cases h
                                      rw [if_neg hc105] at h
                                      refine fj_ald rfl rfl hc105 ?_
                                      cases hq106 : dm_31 (X.2 ((a3 + 1).toNatClampNeg)) (X.2 ((a3 + 2).toNatClampNeg)) M with
                                      | none => rw [hq106] at h; cases h
                                      | some q106 =>
                                        rw [hq106, Option.bind_some] at h
                                        refine fj_cl rfl (de_31 X (X.2 ((a3 + 1).toNatClampNeg)) (X.2 ((a3 + 2).toNatClampNeg)) M _ hq106) ?_
                                        refine fj_blk 5 (123, 538, [some (.inr (42, 0)), some (.inr (0, 0)), some (.inr (20, 0)), some (.inl a3)], [(.inl (a3 + 1)), (.inr (42, 0)), (.inr (20, 0)), (.inl q106.1)], q106.2) rfl ?_
                                        by_cases hc107 : (a3 + 1) < 0 ∨ X.1 ≤ (a3 + 1).toNatClampNeg
                                        · rw [if_pos hc107] at h
                                          cases h
                                        rw [if_neg hc107] at h
                                        refine fj_ald rfl rfl hc107 ?_
                                        refine fj_blk 4 (123, 543, [some (.inr (42, 0)), some (.inr (0, 0)), some (.inr (20, 0)), some (.inl a3)], [(.inl (a3 + 2)), (.inr (42, 0)), (.inl (X.2 ((a3 + 1).toNatClampNeg))), (.inr (20, 0)), (.inl q106.1)], q106.2) rfl ?_
                                        by_cases hc108 : (a3 + 2) < 0 ∨ X.1 ≤ (a3 + 2).toNatClampNeg
                                        · rw [if_pos hc108] at h
                                          cases h
                                        rw [if_neg hc108] at h
                                        refine fj_ald rfl rfl hc108 ?_
                                        cases hq109 : dm_119 (X.2 ((a3 + 1).toNatClampNeg)) (X.2 ((a3 + 2).toNatClampNeg)) q106.2 with
                                        | none => rw [hq109] at h; cases h
                                        | some q109 =>
                                          rw [hq109, Option.bind_some] at h
                                          refine fj_cl rfl (de_119 X (X.2 ((a3 + 1).toNatClampNeg)) (X.2 ((a3 + 2).toNatClampNeg)) q106.2 _ hq109) ?_
                                          by_cases hc110 : q106.1 = q109.1
                                          · rw [if_pos hc110] at h
                                            refine fj_bt rfl (decide_eq_true hc110) ?_
                                            exact de_123_621 X (dm_123_18 X n) (de_123_18 X n) a3 q109.2 r h
                                          · rw [if_neg hc110] at h
                                            refine fj_bf rfl (decide_eq_false hc110) ?_
                                            refine fj_blk 1 (123, 551, [some (.inr (42, 0)), some (.inr (0, 0)), some (.inr (20, 0)), some (.inl a3)], [(.inl 0)], q109.2) rfl ?_
                                            cases h
                                            exact fj_rz rfl rfl (Or.inl rfl)
                                    · rw [if_neg hc103] at h
                                      by_cases hc111 : ((X.2 a3.toNatClampNeg) &&& 31) = 16
                                      · rw [if_pos hc111] at h
                                        refine fj_swg (t := 552) rfl (by rw [hc111]; rfl) ?_
                                        refine fj_blk 5 (123, 557, [some (.inr (42, 0)), some (.inr (0, 0)), some (.inr (20, 0)), some (.inl a3)], [(.inl (a3 + 1)), (.inr (42, 0)), (.inr (0, 0))], M) rfl ?_
                                        by_cases hc112 : (a3 + 1) < 0 ∨ X.1 ≤ (a3 + 1).toNatClampNeg
                                        · rw [if_pos hc112] at h
                                          cases h
                                        rw [if_neg hc112] at h
                                        refine fj_ald rfl rfl hc112 ?_
                                        cases hq113 : dm_32 (X.2 ((a3 + 1).toNatClampNeg)) M with
                                        | none => rw [hq113] at h; cases h
                                        | some q113 =>
                                          rw [hq113, Option.bind_some] at h
                                          refine fj_cl rfl (de_32 X (X.2 ((a3 + 1).toNatClampNeg)) M _ hq113) ?_
                                          refine fj_blk 5 (123, 566, [some (.inr (42, 0)), some (.inr (0, 0)), some (.inr (20, 0)), some (.inl a3)], [(.inl (a3 + 1)), (.inr (42, 0)), (.inr (20, 0)), (.inl q113.1)], q113.2) rfl ?_
                                          by_cases hc114 : (a3 + 1) < 0 ∨ X.1 ≤ (a3 + 1).toNatClampNeg
                                          · rw [if_pos hc114] at h
                                            cases h
                                          rw [if_neg hc114] at h
                                          refine fj_ald rfl rfl hc114 ?_
                                          cases hq115 : dm_120 (X.2 ((a3 + 1).toNatClampNeg)) q113.2 with
                                          | none => rw [hq115] at h; cases h
                                          | some q115 =>
                                            rw [hq115, Option.bind_some] at h
                                            refine fj_cl rfl (de_120 X (X.2 ((a3 + 1).toNatClampNeg)) q113.2 _ hq115) ?_
                                            by_cases hc116 : q113.1 = q115.1
                                            · rw [if_pos hc116] at h
                                              refine fj_bt rfl (decide_eq_true hc116) ?_
                                              exact de_123_621 X (dm_123_18 X n) (de_123_18 X n) a3 q115.2 r h
                                            · rw [if_neg hc116] at h
                                              refine fj_bf rfl (decide_eq_false hc116) ?_
                                              refine fj_blk 1 (123, 574, [some (.inr (42, 0)), some (.inr (0, 0)), some (.inr (20, 0)), some (.inl a3)], [(.inl 0)], q115.2) rfl ?_
                                              cases h
                                              exact fj_rz rfl rfl (Or.inl rfl)
                                      · rw [if_neg hc111] at h
                                        by_cases hc117 : ((X.2 a3.toNatClampNeg) &&& 31) = 17
                                        · rw [if_pos hc117] at h
                                          refine fj_swg (t := 575) rfl (by rw [hc117]; rfl) ?_
                                          refine fj_blk 5 (123, 580, [some (.inr (42, 0)), some (.inr (0, 0)), some (.inr (20, 0)), some (.inl a3)], [(.inl (a3 + 1)), (.inr (42, 0)), (.inr (0, 0))], M) rfl ?_
                                          by_cases hc118 : (a3 + 1) < 0 ∨ X.1 ≤ (a3 + 1).toNatClampNeg
                                          · rw [if_pos hc118] at h
                                            cases h
                                          rw [if_neg hc118] at h
                                          refine fj_ald rfl rfl hc118 ?_
                                          cases hq119 : dm_33 (X.2 ((a3 + 1).toNatClampNeg)) M with
                                          | none => rw [hq119] at h; cases h
                                          | some q119 =>
                                            rw [hq119, Option.bind_some] at h
                                            refine fj_cl rfl (de_33 X (X.2 ((a3 + 1).toNatClampNeg)) M _ hq119) ?_
                                            refine fj_blk 5 (123, 589, [some (.inr (42, 0)), some (.inr (0, 0)), some (.inr (20, 0)), some (.inl a3)], [(.inl (a3 + 1)), (.inr (42, 0)), (.inr (20, 0)), (.inl q119.1)], q119.2) rfl ?_
                                            by_cases hc120 : (a3 + 1) < 0 ∨ X.1 ≤ (a3 + 1).toNatClampNeg
                                            · rw [if_pos hc120] at h
                                              cases h
                                            rw [if_neg hc120] at h
                                            refine fj_ald rfl rfl hc120 ?_
                                            cases hq121 : dm_121 (X.2 ((a3 + 1).toNatClampNeg)) q119.2 with
                                            | none => rw [hq121] at h; cases h
                                            | some q121 =>
                                              rw [hq121, Option.bind_some] at h
                                              refine fj_cl rfl (de_121 X (X.2 ((a3 + 1).toNatClampNeg)) q119.2 _ hq121) ?_
                                              by_cases hc122 : q119.1 = q121.1
                                              · rw [if_pos hc122] at h
                                                refine fj_bt rfl (decide_eq_true hc122) ?_
                                                exact de_123_621 X (dm_123_18 X n) (de_123_18 X n) a3 q121.2 r h
                                              · rw [if_neg hc122] at h
                                                refine fj_bf rfl (decide_eq_false hc122) ?_
                                                refine fj_blk 1 (123, 597, [some (.inr (42, 0)), some (.inr (0, 0)), some (.inr (20, 0)), some (.inl a3)], [(.inl 0)], q121.2) rfl ?_
                                                cases h
                                                exact fj_rz rfl rfl (Or.inl rfl)
                                        · rw [if_neg hc117] at h
                                          by_cases hc123 : ((X.2 a3.toNatClampNeg) &&& 31) = 18
                                          · rw [if_pos hc123] at h
                                            refine fj_swg (t := 598) rfl (by rw [hc123]; rfl) ?_
                                            refine fj_blk 5 (123, 603, [some (.inr (42, 0)), some (.inr (0, 0)), some (.inr (20, 0)), some (.inl a3)], [(.inl (a3 + 1)), (.inr (42, 0)), (.inr (0, 0))], M) rfl ?_
                                            by_cases hc124 : (a3 + 1) < 0 ∨ X.1 ≤ (a3 + 1).toNatClampNeg
                                            · rw [if_pos hc124] at h
                                              cases h
                                            rw [if_neg hc124] at h
                                            refine fj_ald rfl rfl hc124 ?_
                                            cases hq125 : dm_34 (X.2 ((a3 + 1).toNatClampNeg)) M with
                                            | none => rw [hq125] at h; cases h
                                            | some q125 =>
                                              rw [hq125, Option.bind_some] at h
                                              refine fj_cl rfl (de_34 X (X.2 ((a3 + 1).toNatClampNeg)) M _ hq125) ?_
                                              refine fj_blk 5 (123, 612, [some (.inr (42, 0)), some (.inr (0, 0)), some (.inr (20, 0)), some (.inl a3)], [(.inl (a3 + 1)), (.inr (42, 0)), (.inr (20, 0)), (.inl q125.1)], q125.2) rfl ?_
                                              by_cases hc126 : (a3 + 1) < 0 ∨ X.1 ≤ (a3 + 1).toNatClampNeg
                                              · rw [if_pos hc126] at h
                                                cases h
                                              rw [if_neg hc126] at h
                                              refine fj_ald rfl rfl hc126 ?_
                                              cases hq127 : dm_122 (X.2 ((a3 + 1).toNatClampNeg)) q125.2 with
                                              | none => rw [hq127] at h; cases h
                                              | some q127 =>
                                                rw [hq127, Option.bind_some] at h
                                                refine fj_cl rfl (de_122 X (X.2 ((a3 + 1).toNatClampNeg)) q125.2 _ hq127) ?_
                                                by_cases hc128 : q125.1 = q127.1
                                                · rw [if_pos hc128] at h
                                                  refine fj_bt rfl (decide_eq_true hc128) ?_
                                                  exact de_123_621 X (dm_123_18 X n) (de_123_18 X n) a3 q127.2 r h
                                                · rw [if_neg hc128] at h
                                                  refine fj_bf rfl (decide_eq_false hc128) ?_
                                                  refine fj_blk 1 (123, 620, [some (.inr (42, 0)), some (.inr (0, 0)), some (.inr (20, 0)), some (.inl a3)], [(.inl 0)], q127.2) rfl ?_
                                                  cases h
                                                  exact fj_rz rfl rfl (Or.inl rfl)
                                          · rw [if_neg hc123] at h
                                            refine fj_swg (t := 621) rfl (by simp only [fj_sw, hc3, hc11, hc17, hc25, hc33, hc39, hc47, hc55, hc61, hc65, hc71, hc75, hc81, hc89, hc97, hc103, hc111, hc117, hc123, if_false]) ?_
                                            exact de_123_621 X (dm_123_18 X n) (de_123_18 X n) a3 M r h
/-- L_law -/
def dm_123 (X : fj_X)  (M : fj_M) : Option (Int32 × fj_M) := dm_123_18 X 600 0 M
set_option maxRecDepth 40000 in
theorem de_123 (X : fj_X)  (M : fj_M) (r : (Int32 × fj_M)) (h : dm_123 X  M = some r) : fj_ev X (123, 16, [some (.inr (42, 0)), some (.inr (0, 0)), some (.inr (20, 0)), none], [], M) (some r.1, r.2) := by
    unfold dm_123 at h
    refine fj_blk 2 (123, 18, [some (.inr (42, 0)), some (.inr (0, 0)), some (.inr (20, 0)), some (.inl 0)], [], M) rfl ?_
    exact de_123_18 X 600 0 M r h
