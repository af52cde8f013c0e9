/-! THE REFERENCE'S WAKING -/
theorem qn_no {C0 N' : fj_N} {k : Nat} (hk : k < 12) (rec2 : Int32 → Option fj_V → fj_M → Option fj_M) (a2 : Int32) : dm_93_164 rec2 (nI k) a2 0 (C0, N') = rec2 (nI (k + 1)) (some (.inl 0)) (C0, N') := by
  simp only [dm_93_164, dm_93_184, qx_cl (j := k) (show k ≤ 1000000 by omega), qx_neg (n := k) (show k ≤ 100000000 by omega), Nat.not_le.mpr hk, or_self, ↓reduceIte, qx_self, nI_1]
theorem qn_yes {C0 N' : fj_N} {k : Nat} (hk : k < 12) (rec2 : Int32 → Option fj_V → fj_M → Option fj_M) (a2 : Int32) : dm_93_164 rec2 (nI k) a2 1 (C0, N') = rec2 (nI (k + 1)) (some (.inl 1)) (C0, fj_u1 N' 23 0 k 1) := by
  simp only [dm_93_164, dm_93_184, qx_cl (j := k) (show k ≤ 1000000 by omega), qx_neg (n := k) (show k ≤ 100000000 by omega), Nat.not_le.mpr hk, or_self, ↓reduceIte, qz1, nI_1]
/-- one turn of the loop -/
theorem qn_body {C C0 N' : fj_N} {k f : Nat} {o2 : Option fj_V} (hk : k < 12) (hs : N' 23 0 k = C 7 k 2) (hf : qx_w (C 7 k 2) → N' 33 0 k = C 7 k 10) (hf2 : C 7 k 2 = 4 → N' 34 0 k = C 7 k 11) (h35 : ∀ c, c < 6 → N' 35 0 c = C 10 c 2) (h36 : ∀ c, c < 6 → N' 36 0 c = C 10 c 1) (hl : ∀ j, j < 12 → ((¬ N' 23 0 j < 1 ∧ ¬ 6 < N' 23 0 j) ↔ qh_live C j))
    (w1 : C 7 k 2 = 2 ∨ C 7 k 2 = 3 ∨ C 7 k 2 = 4 → ∃ c : Nat, c < 6 ∧ C 7 k 10 = nI c) (w2 : C 7 k 2 = 4 → ∃ c : Nat, c < 6 ∧ C 7 k 11 = nI c) (w3 : C 7 k 2 = 6 → ∃ j : Nat, j < 12 ∧ C 7 k 10 = nI j) :
    (qh_there C k → dm_93_2 (f + 1) (nI k) o2 (C0, N') = dm_93_2 f (nI (k + 1)) (some (.inl 1)) (C0, fj_u1 N' 23 0 k 1)) ∧ (¬ qh_there C k → dm_93_2 (f + 1) (nI k) o2 (C0, N') = dm_93_2 f (nI (k + 1)) (some (.inl 0)) (C0, N')) := by
  have h12 : ¬ (12 : Int32) ≤ nI k := fun q => by
    have := (qx_le (a := 12) (b := k) (by omega) (by omega)).mp q
    omega
  have hm : ∀ c, c < 6 → ¬ nI c < 0 ∧ ¬ 6 ≤ nI c := fun c hc => ⟨qx_neg (by omega), fun q => by
    have := (qx_le (a := 6) (b := c) (by omega) (by omega)).mp q
    omega⟩
  by_cases s2 : C 7 k 2 = 2
  · obtain ⟨c, hc, hc2⟩ := w1 (Or.inl s2)
    have e33 : N' 33 0 k = nI c := (hf (Or.inl s2)).trans hc2
    have hs2 : N' 23 0 k = 2 := hs.trans s2
    constructor
    · intro ht
      have h1 : ¬ C 10 c 2 ≤ C 10 c 1 := by
        rcases ht with ⟨-, h⟩ | ⟨h, -⟩ | ⟨h, -⟩ | ⟨h, -⟩
        · have := h.2.2
          rw [hc2, qx_cl (by omega)] at this
          exact this
        all_goals rw [s2] at h; exact absurd h (by decide)
      simp (decide := true) only [dm_93_2, if_neg h12, qx_cl (j := k) (show k ≤ 1000000 by omega), qx_neg (n := k) (show k ≤ 100000000 by omega), Nat.not_le.mpr hk, or_self, ↓reduceIte, hs2, e33, qx_cl (j := c) (show c ≤ 1000000 by omega), qx_neg (n := c) (show c ≤ 100000000 by omega), Nat.not_le.mpr hc, or_self, h35 c hc, h36 c hc, if_neg h1, dm_93_48, dm_93_77, dm_93_82, dm_93_125, dm_93_130, dm_93_159, qn_yes hk]
    · intro ht
      have h1 : C 10 c 2 ≤ C 10 c 1 := Classical.not_not.mp fun q => ht (Or.inl ⟨s2, by
        unfold qh_room
        rw [hc2, qx_cl (by omega)]
        exact ⟨(hm c hc).1, (hm c hc).2, q⟩⟩)
      simp (decide := true) only [dm_93_2, if_neg h12, qx_cl (j := k) (show k ≤ 1000000 by omega), qx_neg (n := k) (show k ≤ 100000000 by omega), Nat.not_le.mpr hk, or_self, ↓reduceIte, hs2, e33, qx_cl (j := c) (show c ≤ 1000000 by omega), qx_neg (n := c) (show c ≤ 100000000 by omega), Nat.not_le.mpr hc, or_self, h35 c hc, h36 c hc, if_pos h1, dm_93_47, dm_93_48, dm_93_81, dm_93_82, dm_93_129, dm_93_130, dm_93_163, qn_no hk]
  by_cases s3 : C 7 k 2 = 3
  · obtain ⟨c, hc, hc2⟩ := w1 (Or.inr (Or.inl s3))
    have e33 : N' 33 0 k = nI c := (hf (Or.inr (Or.inl s3))).trans hc2
    have hs3 : N' 23 0 k = 3 := hs.trans s3
    constructor
    · intro ht
      have h1 : ¬ C 10 c 1 ≤ 0 := by
        rcases ht with ⟨h, -⟩ | ⟨-, h⟩ | ⟨h, -⟩ | ⟨h, -⟩
        · rw [s3] at h; exact absurd h (by decide)
        · have := h.2.2
          rw [hc2, qx_cl (by omega)] at this
          exact this
        all_goals rw [s3] at h; exact absurd h (by decide)
      simp (decide := true) only [dm_93_2, if_neg h12, qx_cl (j := k) (show k ≤ 1000000 by omega), qx_neg (n := k) (show k ≤ 100000000 by omega), Nat.not_le.mpr hk, or_self, ↓reduceIte, hs3, e33, qx_cl (j := c) (show c ≤ 1000000 by omega), qx_neg (n := c) (show c ≤ 100000000 by omega), Nat.not_le.mpr hc, or_self, h36 c hc, if_neg h1, dm_93_47, dm_93_48, dm_93_77, dm_93_82, dm_93_125, dm_93_130, dm_93_159, qn_yes hk]
    · intro ht
      have h1 : C 10 c 1 ≤ 0 := Classical.not_not.mp fun q => ht (Or.inr (Or.inl ⟨s3, by
        unfold qh_ints
        rw [hc2, qx_cl (by omega)]
        exact ⟨(hm c hc).1, (hm c hc).2, q⟩⟩))
      simp (decide := true) only [dm_93_2, if_neg h12, qx_cl (j := k) (show k ≤ 1000000 by omega), qx_neg (n := k) (show k ≤ 100000000 by omega), Nat.not_le.mpr hk, or_self, ↓reduceIte, hs3, e33, qx_cl (j := c) (show c ≤ 1000000 by omega), qx_neg (n := c) (show c ≤ 100000000 by omega), Nat.not_le.mpr hc, or_self, h36 c hc, if_pos h1, dm_93_47, dm_93_48, dm_93_81, dm_93_82, dm_93_129, dm_93_130, dm_93_163, qn_no hk]
  by_cases s4 : C 7 k 2 = 4
  · obtain ⟨c, hc, hc2⟩ := w1 (Or.inr (Or.inr s4))
    obtain ⟨c', hc', hc2'⟩ := w2 s4
    have e33 : N' 33 0 k = nI c := (hf (Or.inr (Or.inr (Or.inl s4)))).trans hc2
    have e34 : N' 34 0 k = nI c' := (hf2 s4).trans hc2'
    have hs4 : N' 23 0 k = 4 := hs.trans s4
    by_cases g1 : C 10 c 1 ≤ 0
    · have g1' : ¬ 0 < C 10 c 1 := qx_lt_not g1
      by_cases g2 : C 10 c' 1 ≤ 0
      · constructor
        · intro ht
          exfalso
          rcases ht with ⟨h, -⟩ | ⟨h, -⟩ | ⟨-, h⟩ | ⟨h, -⟩
          · rw [s4] at h; exact absurd h (by decide)
          · rw [s4] at h; exact absurd h (by decide)
          · rcases h with h | h
            · have := h.2.2
              rw [hc2, qx_cl (by omega)] at this
              exact this g1
            · have := h.2.2
              rw [hc2', qx_cl (by omega)] at this
              exact this g2
          · rw [s4] at h; exact absurd h (by decide)
        · intro _
          simp (decide := true) only [dm_93_2, if_neg h12, qx_cl (j := k) (show k ≤ 1000000 by omega), qx_neg (n := k) (show k ≤ 100000000 by omega), Nat.not_le.mpr hk, or_self, ↓reduceIte, hs4, e33, e34, qx_cl (j := c) (show c ≤ 1000000 by omega), qx_neg (n := c) (show c ≤ 100000000 by omega), Nat.not_le.mpr hc, or_self, qx_cl (j := c') (show c' ≤ 1000000 by omega), qx_neg (n := c') (show c' ≤ 100000000 by omega), Nat.not_le.mpr hc', or_self, h36 c hc, h36 c' hc', if_neg g1', if_pos g2, dm_93_47, dm_93_48, dm_93_81, dm_93_82, dm_93_129, dm_93_130, dm_93_163, qn_no hk]
      · constructor
        · intro _
          simp (decide := true) only [dm_93_2, if_neg h12, qx_cl (j := k) (show k ≤ 1000000 by omega), qx_neg (n := k) (show k ≤ 100000000 by omega), Nat.not_le.mpr hk, or_self, ↓reduceIte, hs4, e33, e34, qx_cl (j := c) (show c ≤ 1000000 by omega), qx_neg (n := c) (show c ≤ 100000000 by omega), Nat.not_le.mpr hc, or_self, qx_cl (j := c') (show c' ≤ 1000000 by omega), qx_neg (n := c') (show c' ≤ 100000000 by omega), Nat.not_le.mpr hc', or_self, h36 c hc, h36 c' hc', if_neg g1', if_neg g2, dm_93_47, dm_93_48, dm_93_81, dm_93_82, dm_93_125, dm_93_130, dm_93_159, qn_yes hk]
        · intro ht
          exact absurd (Or.inr (Or.inr (Or.inl ⟨s4, Or.inr (by
            unfold qh_ints
            rw [hc2', qx_cl (by omega)]
            exact ⟨(hm c' hc').1, (hm c' hc').2, g2⟩)⟩))) ht
    · have g1' : 0 < C 10 c 1 := qx_not_le g1
      constructor
      · intro _
        simp (decide := true) only [dm_93_2, if_neg h12, qx_cl (j := k) (show k ≤ 1000000 by omega), qx_neg (n := k) (show k ≤ 100000000 by omega), Nat.not_le.mpr hk, or_self, ↓reduceIte, hs4, e33, qx_cl (j := c) (show c ≤ 1000000 by omega), qx_neg (n := c) (show c ≤ 100000000 by omega), Nat.not_le.mpr hc, or_self, h36 c hc, if_pos g1', dm_93_47, dm_93_48, dm_93_81, dm_93_82, dm_93_125, dm_93_130, dm_93_159, qn_yes hk]
      · intro ht
        exact absurd (Or.inr (Or.inr (Or.inl ⟨s4, Or.inl (by
          unfold qh_ints
          rw [hc2, qx_cl (by omega)]
          exact ⟨(hm c hc).1, (hm c hc).2, g1⟩)⟩))) ht
  by_cases s6 : C 7 k 2 = 6
  · obtain ⟨j, hj, hj2⟩ := w3 s6
    have e33 : N' 33 0 k = nI j := (hf (Or.inr (Or.inr (Or.inr s6)))).trans hj2
    have hs6 : N' 23 0 k = 6 := hs.trans s6
    have hmj : ¬ nI j < 0 ∧ ¬ 12 ≤ nI j := ⟨qx_neg (by omega), fun q => by
      have := (qx_le (a := 12) (b := j) (by omega) (by omega)).mp q
      omega⟩
    by_cases g : qh_live C j
    · constructor
      · intro ht
        exfalso
        rcases ht with ⟨h, -⟩ | ⟨h, -⟩ | ⟨h, -⟩ | ⟨-, h⟩
        · rw [s6] at h; exact absurd h (by decide)
        · rw [s6] at h; exact absurd h (by decide)
        · rw [s6] at h; exact absurd h (by decide)
        · refine h ?_
          unfold qh_alive
          rw [hj2, qx_cl (by omega)]
          exact ⟨hmj.1, hmj.2, g⟩
      · intro _
        simp (decide := true) only [dm_93_2, if_neg h12, qx_cl (j := k) (show k ≤ 1000000 by omega), qx_neg (n := k) (show k ≤ 100000000 by omega), Nat.not_le.mpr hk, or_self, ↓reduceIte, hs6, e33, qn_live1 (C := C0) hj ((hl j hj).mpr g), Option.bind_some, dm_93_47, dm_93_48, dm_93_81, dm_93_82, dm_93_129, dm_93_130, dm_93_163, qn_no hk]
    · constructor
      · intro _
        simp (decide := true) only [dm_93_2, if_neg h12, qx_cl (j := k) (show k ≤ 1000000 by omega), qx_neg (n := k) (show k ≤ 100000000 by omega), Nat.not_le.mpr hk, or_self, ↓reduceIte, hs6, e33, qn_live0 (C := C0) hj (fun q => g ((hl j hj).mp q)), Option.bind_some, dm_93_47, dm_93_48, dm_93_81, dm_93_82, dm_93_129, dm_93_130, dm_93_159, qn_yes hk]
      · intro ht
        refine absurd (Or.inr (Or.inr (Or.inr ⟨s6, fun h => ?_⟩))) ht
        have := h.2.2
        rw [hj2, qx_cl (by omega)] at this
        exact g this
  · have n2 : ¬ N' 23 0 k = 2 := by rw [hs]; exact s2
    have n3 : ¬ N' 23 0 k = 3 := by rw [hs]; exact s3
    have n4 : ¬ N' 23 0 k = 4 := by rw [hs]; exact s4
    have n6 : ¬ N' 23 0 k = 6 := by rw [hs]; exact s6
    constructor
    · intro ht
      exfalso
      rcases qh_there_w ht with h | h | h | h
      · exact s2 h
      · exact s3 h
      · exact s4 h
      · exact s6 h
    · intro _
      simp only [dm_93_2, if_neg h12, qx_cl (j := k) (show k ≤ 1000000 by omega), qx_neg (n := k) (show k ≤ 100000000 by omega), Nat.not_le.mpr hk, or_self, ↓reduceIte, if_neg n2, if_neg n3, if_neg n4, if_neg n6, dm_93_47, dm_93_48, dm_93_81, dm_93_82, dm_93_129, dm_93_130, dm_93_163, qn_no hk]
theorem qwn_live {B : qB} {C N : fj_N} {k : Nat} (hT : ∀ i, i < 12 → qT C N i) : ∀ j, j < 12 → ((¬ qwn C N k 23 0 j < 1 ∧ ¬ 6 < qwn C N k 23 0 j) ↔ qh_live C j) := by
  intro j hj
  by_cases h : j < k ∧ qh_there C j
  · rw [qwn_p h.1 h.2]
    exact ⟨fun _ => qx_w_live (qh_there_w h.2), fun _ => by decide⟩
  · rw [qwn_n (fun q => h ⟨q.2.2.1, q.2.2.2⟩), (hT j hj).1.1]
    exact Iff.rfl
theorem qn_wake_loop {C N C0 : fj_N} (hT : ∀ i, i < 12 → qT C N i) (hC : ∀ c, c < 6 → qC C N c) : ∀ (m k fuel : Nat) (o2 : Option fj_V), k + m = 12 → m < fuel → dm_93_2 fuel (nI k) o2 (C0, qwn C N k) = some (C0, qwn C N 12) := by
  intro m
  induction m with
  | zero =>
    intro k fuel o2 hk hf
    obtain ⟨f, rfl⟩ : ∃ f, fuel = f + 1 := ⟨fuel - 1, by omega⟩
    have hk : k = 12 := by omega
    subst hk
    unfold dm_93_2
    rw [if_pos (show (12 : Int32) ≤ nI 12 from by decide)]
  | succ m ih =>
    intro k fuel o2 hk hf
    obtain ⟨f, rfl⟩ : ∃ f, fuel = f + 1 := ⟨fuel - 1, by omega⟩
    have hk2 : k < 12 := by omega
    have ht := hT k hk2
    obtain ⟨b1, b2⟩ := qn_body (C := C) (C0 := C0) (N' := qwn C N k) (k := k) (f := f) (o2 := o2) hk2 (by rw [qwn_n (fun q => by omega)]; exact ht.1.1) (fun h => by rw [qwn_n (fun q => by omega)]; exact ht.2.1.1 h) (fun h => by rw [qwn_n (fun q => by omega)]; exact ht.2.1.2 h) (fun c hc => by rw [qwn_n (fun q => by omega)]; exact (hC c hc).2.1) (fun c hc => by rw [qwn_n (fun q => by omega)]; exact (hC c hc).1) (qwn_live (B := (0, true)) hT) ht.2.2.2.2.2.2.1 ht.2.2.2.2.2.2.2.1 ht.2.2.2.2.2.2.2.2
    by_cases h : qh_there C k
    · rw [b1 h, qwn_s1 h]
      exact ih (k + 1) f _ (by omega) (by omega)
    · rw [b2 h, qwn_s0 h]
      exact ih (k + 1) f _ (by omega) (by omega)
theorem qn_wake {C N : fj_N} (C0 : fj_N) (hT : ∀ i, i < 12 → qT C N i) (hC : ∀ c, c < 6 → qC C N c) : dm_93 (C0, N) = some (C0, qwn C N 12) := by
  have := qn_wake_loop (C0 := C0) hT hC 12 0 40 none (by omega) (by omega)
  rw [qwn_0] at this
  exact this
/-- waking keeps the relation, and then nobody waits in vain -/
theorem qw_R {B : qB} {C N : fj_N} (h : qR B C N) : qR B (qwk C 12) (qwn C N 12) ∧ qW (qwk C 12) := by
  obtain ⟨hS, hA, hT, hC⟩ := h
  refine ⟨⟨qS_cg hS (fun j => qwk_n (fun q => by omega)) (fun j _ => qwn_n (fun q => by omega)), qA_cg hA (fun κ j _ _ => qwk_n (fun q => by omega)) (fun κ j _ => qwn_n (fun q => by omega)), fun i hi => ?_, fun c hc => ?_⟩, fun i hi q => ?_⟩
  · have ht := hT i hi
    by_cases w : qh_there C i
    · have hw := qh_there_w w
      obtain ⟨⟨a1, a2, a3, a4, a5, a6, a7, a8⟩, b, ⟨d, d1, d2, d3⟩, ⟨r, r1, r2, r3⟩, e, f, g⟩ := ht
      have e1 : qwk C 12 7 i 2 = 1 := qwk_p hi w
      have e2 : qwn C N 12 23 0 i = 1 := qwn_p hi w
      have ec : ∀ j, j ≠ 2 → qwk C 12 7 i j = C 7 i j := fun j hj => qwk_n (fun q => hj q.2.1)
      have en : ∀ κ j, κ ≠ 23 → qwn C N 12 κ 0 j = N κ 0 j := fun κ j hj => qwn_n (fun q => hj q.1)
      have h5 : ¬ C 7 i 2 = 5 := by
        intro h5
        rcases hw with h | h | h | h <;> rw [h5] at h <;> exact absurd h (by decide)
      unfold qT
      simp only [e1, e2, ec 3 (by omega), ec 4 (by omega), ec 5 (by omega), ec 6 (by omega), ec 7 (by omega), ec 8 (by omega), ec 9 (by omega), ec 10 (by omega), ec 11 (by omega), en 24 i (by omega), en 25 i (by omega), en 27 i (by omega), en 29 i (by omega), en 30 i (by omega), en 31 i (by omega), en 32 i (by omega), en 33 i (by omega), en 34 i (by omega)]
      refine ⟨⟨trivial, a2, a3, a4, a5, a6, ?_, a8⟩, ⟨fun q => ?_, fun q => absurd q (by decide)⟩, ⟨d, d1, d2, fun j hj => ?_⟩, ⟨r, r1, r2, fun j hj => ?_⟩, ⟨1, by omega, rfl⟩, f, fun q => absurd q (by decide), fun q => absurd q (by decide), fun q => absurd q (by decide)⟩
      · rw [a7, if_neg h5, if_neg (by decide)]
      · exact absurd q (by unfold qx_w; decide)
      · rw [en 26 _ (by omega), qwk_n (fun q => by omega)]; exact d3 j hj
      · rw [en 28 _ (by omega), qwk_n (fun q => by omega)]; exact r3 j hj
    · exact qT_cg ht (fun j => qwk_n (fun q => w q.2.2.2)) (fun j _ => qwk_n (fun q => by omega)) (fun j _ => qwk_n (fun q => by omega)) (fun κ _ _ _ _ => qwn_n (fun q => w q.2.2.2)) (fun j _ => qwn_n (fun q => by omega)) (fun j _ => qwn_n (fun q => by omega))
  · exact qC_cg (hC c hc) (fun j => qwk_n (fun q => by omega)) (fun j _ => qwk_n (fun q => by omega)) (qwn_n (fun q => by omega)) (qwn_n (fun q => by omega)) (fun j _ => qwn_n (fun q => by omega))
  · by_cases w : qh_there C i
    · have e1 : qwk C 12 7 i 2 = 1 := qwk_p hi w
      have := qh_there_w q
      rw [e1] at this
      exact absurd this (by unfold qx_w; decide)
    · refine w ?_
      have e2 : ∀ j, qwk C 12 7 i j = C 7 i j := fun j => qwk_n (fun q => w q.2.2.2)
      have ec : ∀ c j, qwk C 12 10 c j = C 10 c j := fun c j => qwk_n (fun q => by omega)
      unfold qh_there qh_room qh_ints qh_alive at q ⊢
      simp only [e2, ec, qwk_live] at q
      exact q
