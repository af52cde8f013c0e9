/-! SLEEPERS WAKE -/
def qaw (C : fj_N) (i : Nat) : Prop := C 7 i 2 = 5 ∧ ¬ C 0 0 10 < C 7 i 8
noncomputable def qsl (C : fj_N) (k : Nat) : fj_N := fun κ i j => @ite _ (κ = 7 ∧ j = 2 ∧ i < k ∧ qaw C i) (Classical.propDecidable _) 1 (C κ i j)
theorem qsl_p {C : fj_N} {k i : Nat} (h1 : i < k) (h2 : qaw C i) : qsl C k 7 i 2 = 1 := if_pos ⟨rfl, rfl, h1, h2⟩
theorem qsl_n {C : fj_N} {k κ i j : Nat} (h : ¬ (κ = 7 ∧ j = 2 ∧ i < k ∧ qaw C i)) : qsl C k κ i j = C κ i j := if_neg h
theorem qsl_0 (C : fj_N) : qsl C 0 = C := by
  funext κ i j
  exact qsl_n (fun q => by omega)
theorem qsl_s1 {C : fj_N} {k : Nat} (h : qaw C k) : fj_u1 (qsl C k) 7 k 2 1 = qsl C (k + 1) := by
  funext κ i j
  rw [qx_u]
  by_cases h1 : κ = 7 ∧ i = k ∧ j = 2
  · obtain ⟨rfl, rfl, rfl⟩ := h1
    rw [if_pos ⟨rfl, rfl, rfl⟩, qsl_p (by omega) h]
  · rw [if_neg h1]
    by_cases h2 : κ = 7 ∧ j = 2 ∧ i < k ∧ qaw C i
    · obtain ⟨rfl, rfl, h3, h4⟩ := h2
      rw [qsl_p h3 h4, qsl_p (by omega) h4]
    · rw [qsl_n h2, qsl_n (fun q => h2 ⟨q.1, q.2.1, by omega, q.2.2.2⟩)]
theorem qsl_s0 {C : fj_N} {k : Nat} (h : ¬ qaw C k) : qsl C k = qsl C (k + 1) := by
  funext κ i j
  by_cases h2 : κ = 7 ∧ j = 2 ∧ i < k ∧ qaw C i
  · obtain ⟨rfl, rfl, h3, h4⟩ := h2
    rw [qsl_p h3 h4, qsl_p (by omega) h4]
  · rw [qsl_n h2, qsl_n (fun q => h2 ⟨q.1, q.2.1, by
      have hne : i ≠ k := fun e => h (by rw [← e]; exact q.2.2.2)
      omega, q.2.2.2⟩)]
theorem qk_sleep_loop {C N : fj_N} : ∀ (m k fuel : Nat), k + m = 12 → m < fuel → dm_46_2 fuel (nI k) (qsl C k, N) = some (qsl C 12, N) := by
  intro m
  induction m with
  | zero =>
    intro k fuel hk hf
    obtain ⟨f, rfl⟩ : ∃ f, fuel = f + 1 := ⟨fuel - 1, by omega⟩
    have hk : k = 12 := by omega
    subst hk
    unfold dm_46_2
    rw [if_pos (show (12 : Int32) ≤ nI 12 from by decide)]
  | succ m ih =>
    intro k fuel hk hf
    obtain ⟨f, rfl⟩ : ∃ f, fuel = f + 1 := ⟨fuel - 1, by omega⟩
    have hk2 : k < 12 := by omega
    have e2 : qsl C k 7 k 2 = C 7 k 2 := qsl_n (fun q => by omega)
    have e8 : qsl C k 7 k 8 = C 7 k 8 := qsl_n (fun q => by omega)
    have e10 : qsl C k 0 0 10 = C 0 0 10 := qsl_n (fun q => by omega)
    by_cases h5 : C 7 k 2 = 5
    · by_cases ht : C 0 0 10 < C 7 k 8
      · simp only [dm_46_2, if_neg (qx_out12 hk2), qx_cl (j := k) (show k ≤ 1000000 by omega), qx_neg (n := k) (show k ≤ 100000000 by omega), Nat.not_le.mpr hk2, or_self, ↓reduceIte, e2, e8, e10, h5, if_pos ht, dm_46_47, nI_1]
        rw [qsl_s0 (fun q => q.2 ht)]
        exact ih (k + 1) f (by omega) (by omega)
      · simp only [dm_46_2, if_neg (qx_out12 hk2), qx_cl (j := k) (show k ≤ 1000000 by omega), qx_neg (n := k) (show k ≤ 100000000 by omega), Nat.not_le.mpr hk2, or_self, ↓reduceIte, e2, e8, e10, h5, if_neg ht, dm_46_47, nI_1]
        rw [qsl_s1 ⟨h5, ht⟩]
        exact ih (k + 1) f (by omega) (by omega)
    · simp only [dm_46_2, if_neg (qx_out12 hk2), qx_cl (j := k) (show k ≤ 1000000 by omega), qx_neg (n := k) (show k ≤ 100000000 by omega), Nat.not_le.mpr hk2, or_self, ↓reduceIte, e2, if_neg h5, dm_46_47, nI_1]
      rw [qsl_s0 (fun q => h5 q.1)]
      exact ih (k + 1) f (by omega) (by omega)
theorem qk_sleep (C N : fj_N) : dm_46 (C, N) = some (qsl C 12, N) := by
  have := qk_sleep_loop (C := C) (N := N) 12 0 40 (by omega) (by omega)
  rw [qsl_0] at this
  exact this
theorem qsl_live {C : fj_N} {k i : Nat} : qh_live (qsl C k) i ↔ qh_live C i := by
  by_cases h : i < k ∧ qaw C i
  · have h1 : qh_live C i := by
      unfold qh_live
      rw [h.2.1]
      decide
    have h2 : qh_live (qsl C k) i := by
      unfold qh_live
      rw [qsl_p h.1 h.2]
      decide
    exact ⟨fun _ => h1, fun _ => h2⟩
  · unfold qh_live
    rw [qsl_n (fun q => h ⟨q.2.2.1, q.2.2.2⟩)]
/-- the reference's memory when k sleepers were looked at -/
noncomputable def qsm (C N : fj_N) (k : Nat) : fj_N := fun κ i j => @ite _ (i = 0 ∧ j < k ∧ qaw C j ∧ (κ = 23 ∨ κ = 31)) (Classical.propDecidable _) (if κ = 23 then 1 else 0) (N κ i j)
theorem qsm_p {C N : fj_N} {k j : Nat} (h1 : j < k) (h2 : qaw C j) : qsm C N k 23 0 j = 1 ∧ qsm C N k 31 0 j = 0 := ⟨if_pos ⟨rfl, h1, h2, Or.inl rfl⟩, if_pos ⟨rfl, h1, h2, Or.inr rfl⟩⟩
theorem qsm_n {C N : fj_N} {k κ i j : Nat} (h : ¬ (i = 0 ∧ j < k ∧ qaw C j ∧ (κ = 23 ∨ κ = 31))) : qsm C N k κ i j = N κ i j := if_neg h
theorem qsm_0 (C N : fj_N) : qsm C N 0 = N := by
  funext κ i j
  exact qsm_n (fun q => by omega)
theorem qsm_s1 {C N : fj_N} {k : Nat} (h : qaw C k) : fj_u1 (fj_u1 (qsm C N k) 23 0 k 1) 31 0 k 0 = qsm C N (k + 1) := by
  funext κ i j
  rw [qx_u, qx_u]
  by_cases h1 : κ = 31 ∧ i = 0 ∧ j = k
  · obtain ⟨rfl, rfl, rfl⟩ := h1
    rw [if_pos ⟨rfl, rfl, rfl⟩, (qsm_p (by omega) h).2]
  · rw [if_neg h1]
    by_cases h2 : κ = 23 ∧ i = 0 ∧ j = k
    · obtain ⟨rfl, rfl, rfl⟩ := h2
      rw [if_pos ⟨rfl, rfl, rfl⟩, (qsm_p (by omega) h).1]
    · rw [if_neg h2]
      by_cases h3 : i = 0 ∧ j < k ∧ qaw C j ∧ (κ = 23 ∨ κ = 31)
      · have e1 : qsm C N k κ i j = (if κ = 23 then 1 else 0) := if_pos h3
        have e2 : qsm C N (k + 1) κ i j = (if κ = 23 then 1 else 0) := if_pos ⟨h3.1, by omega, h3.2.2⟩
        rw [e1, e2]
      · rw [qsm_n h3, qsm_n (fun q => h3 ⟨q.1, by omega, q.2.2⟩)]
theorem qsm_s0 {C N : fj_N} {k : Nat} (h : ¬ qaw C k) : qsm C N k = qsm C N (k + 1) := by
  funext κ i j
  by_cases h3 : i = 0 ∧ j < k ∧ qaw C j ∧ (κ = 23 ∨ κ = 31)
  · have e1 : qsm C N k κ i j = (if κ = 23 then 1 else 0) := if_pos h3
    have e2 : qsm C N (k + 1) κ i j = (if κ = 23 then 1 else 0) := if_pos ⟨h3.1, by omega, h3.2.2⟩
    rw [e1, e2]
  · rw [qsm_n h3, qsm_n (fun q => h3 ⟨q.1, by
      have hne : j ≠ k := fun e => h (by rw [← e]; exact q.2.2.1)
      omega, q.2.2⟩)]
/-- waking sleepers keeps the relation -/
theorem qsl_R {B : qB} {C N : fj_N} (h : qR B C N) : qR B (qsl C 12) (qsm C N 12) := by
  obtain ⟨hS, hA, hT, hC⟩ := h
  refine ⟨qS_cg hS (fun j => qsl_n (fun q => by omega)) (fun j _ => qsm_n (fun q => by omega)), qA_cg hA (fun κ j _ _ => qsl_n (fun q => by omega)) (fun κ j _ => qsm_n (fun q => by omega)), fun i hi => ?_, qC_all hC (fun κ i j _ _ => qsl_n (fun q => by omega)) (fun κ i j _ _ => qsm_n (fun q => by omega))⟩
  have ht := hT i hi
  by_cases w : qaw C i
  · obtain ⟨⟨a1, a2, a3, a4, a5, a6, a7, a8⟩, b, ⟨d, d1, d2, d3⟩, ⟨r, r1, r2, r3⟩, e, f, g⟩ := ht
    have e1 : qsl C 12 7 i 2 = 1 := qsl_p hi w
    have e2 := qsm_p (N := N) hi w
    have ec : ∀ j, j ≠ 2 → qsl C 12 7 i j = C 7 i j := fun j hj => qsl_n (fun q => hj q.2.1)
    have en : ∀ κ j, κ ≠ 23 → κ ≠ 31 → qsm C N 12 κ 0 j = N κ 0 j := fun κ j h1 h2 => qsm_n (fun q => by omega)
    unfold qT
    rw [e1, e2.1, e2.2, ec 3 (by omega), ec 4 (by omega), ec 5 (by omega), ec 6 (by omega), ec 7 (by omega), ec 8 (by omega), ec 9 (by omega), ec 10 (by omega), ec 11 (by omega), en 24 i (by omega) (by omega), en 25 i (by omega) (by omega), en 27 i (by omega) (by omega), en 29 i (by omega) (by omega), en 30 i (by omega) (by omega), en 32 i (by omega) (by omega), en 33 i (by omega) (by omega), en 34 i (by omega) (by omega)]
    refine ⟨⟨rfl, a2, a3, a4, a5, a6, (if_neg (by decide)).symm, a8⟩, ⟨fun q => absurd q (by unfold qx_w; decide), fun q => absurd q (by decide)⟩, ⟨d, d1, d2, fun j hj => ?_⟩, ⟨r, r1, r2, fun j hj => ?_⟩, ⟨1, by omega, rfl⟩, f, fun q => absurd q (by decide), fun q => absurd q (by decide), fun q => absurd q (by decide)⟩
    · rw [en 26 _ (by omega) (by omega), qsl_n (fun q => by omega)]; exact d3 j hj
    · rw [en 28 _ (by omega) (by omega), qsl_n (fun q => by omega)]; exact r3 j hj
  · exact qT_cg ht (fun j => qsl_n (fun q => w q.2.2.2)) (fun j _ => qsl_n (fun q => by omega)) (fun j _ => qsl_n (fun q => by omega)) (fun κ _ _ _ _ => qsm_n (fun q => w q.2.2.1)) (fun j _ => qsm_n (fun q => by omega)) (fun j _ => qsm_n (fun q => by omega))
theorem qsl_W {C : fj_N} (hW : qW C) : qW (qsl C 12) := by
  intro k hk q
  by_cases w : qaw C k
  · have := qh_there_w q
    rw [qsl_p hk w] at this
    exact absurd this (by unfold qx_w; decide)
  · refine hW k hk ?_
    have e2 : ∀ j, qsl C 12 7 k j = C 7 k j := fun j => qsl_n (fun q => w q.2.2.2)
    have ec : ∀ c j, qsl C 12 10 c j = C 10 c j := fun c j => qsl_n (fun q => by omega)
    unfold qh_there qh_room qh_ints qh_alive at q ⊢
    simp only [e2, ec, qsl_live] at q
    exact q
