/-! WAKING THOSE THAT WAIT -/
section QT
variable {M : fj_M} {i : Nat}
theorem qk_there1 (h : qh_there M.1 i) : dm_48 i M = some (1, M) := by
  unfold dm_48
  rcases h with ⟨hs, h⟩ | ⟨hs, h⟩ | ⟨hs, h⟩ | ⟨hs, h⟩
  · simp only [hs, ↓reduceIte, qk_room1 h, Option.bind_some]
    rfl
  · simp (decide := true) only [hs, ↓reduceIte, qk_ints1 h, Option.bind_some]
  · by_cases h1 : qh_ints M.1 (M.1 7 i 10)
    · simp (decide := true) only [hs, ↓reduceIte, qk_ints1 h1, Option.bind_some]
    · have h2 := h.resolve_left h1
      simp (decide := true) only [hs, ↓reduceIte, qk_ints0 h1, qk_ints1 h2, Option.bind_some]
  · simp (decide := true) only [hs, ↓reduceIte, qk_alive0 h, Option.bind_some]
theorem qk_there0 (h : ¬ qh_there M.1 i) : dm_48 i M = some (0, M) := by
  unfold dm_48
  by_cases h2 : M.1 7 i 2 = 2
  · have h3 : ¬ qh_room M.1 (M.1 7 i 10) := fun q => h (Or.inl ⟨h2, q⟩)
    simp only [h2, ↓reduceIte, qk_room0 h3, Option.bind_some]
    rfl
  by_cases h3 : M.1 7 i 2 = 3
  · have h4 : ¬ qh_ints M.1 (M.1 7 i 10) := fun q => h (Or.inr (Or.inl ⟨h3, q⟩))
    simp (decide := true) only [h3, ↓reduceIte, qk_ints0 h4, Option.bind_some]
  by_cases h4 : M.1 7 i 2 = 4
  · have h5 : ¬ qh_ints M.1 (M.1 7 i 10) := fun q => h (Or.inr (Or.inr (Or.inl ⟨h4, Or.inl q⟩)))
    have h6 : ¬ qh_ints M.1 (M.1 7 i 11) := fun q => h (Or.inr (Or.inr (Or.inl ⟨h4, Or.inr q⟩)))
    simp (decide := true) only [h4, ↓reduceIte, qk_ints0 h5, qk_ints0 h6, Option.bind_some]
  by_cases h6 : M.1 7 i 2 = 6
  · have h7 : qh_alive M.1 (M.1 7 i 10) := Classical.not_not.mp fun q => h (Or.inr (Or.inr (Or.inr ⟨h6, q⟩)))
    simp (decide := true) only [h6, ↓reduceIte, qk_alive1 h7, Option.bind_some]
  · rw [if_neg h2, if_neg h3, if_neg h4, if_neg h6]
    split <;> rfl
end QT
/-- the class's memory when the first k tasks were looked at -/
noncomputable def qwk (C : fj_N) (k : Nat) : fj_N := fun κ i j => @ite _ (κ = 7 ∧ j = 2 ∧ i < k ∧ qh_there C i) (Classical.propDecidable _) 1 (C κ i j)
theorem qwk_p {C : fj_N} {k i : Nat} (h1 : i < k) (h2 : qh_there C i) : qwk C k 7 i 2 = 1 := if_pos ⟨rfl, rfl, h1, h2⟩
theorem qwk_n {C : fj_N} {k κ i j : Nat} (h : ¬ (κ = 7 ∧ j = 2 ∧ i < k ∧ qh_there C i)) : qwk C k κ i j = C κ i j := if_neg h
theorem qh_there_w {C : fj_N} {i : Nat} (h : qh_there C i) : qx_w (C 7 i 2) := by
  rcases h with ⟨hs, h⟩ | ⟨hs, h⟩ | ⟨hs, h⟩ | ⟨hs, h⟩
  · exact Or.inl hs
  · exact Or.inr (Or.inl hs)
  · exact Or.inr (Or.inr (Or.inl hs))
  · exact Or.inr (Or.inr (Or.inr hs))
theorem qx_w_live {s : Int32} (h : qx_w s) : ¬ s < 1 ∧ ¬ 6 < s := by
  rcases h with rfl | rfl | rfl | rfl <;> decide
theorem qwk_live {C : fj_N} {k i : Nat} : qh_live (qwk C k) i ↔ qh_live C i := by
  by_cases h : i < k ∧ qh_there C i
  · have h1 : qh_live C i := qx_w_live (qh_there_w h.2)
    have h2 : qh_live (qwk C k) i := by
      unfold qh_live
      rw [qwk_p h.1 h.2]
      decide
    exact ⟨fun _ => h1, fun _ => h2⟩
  · unfold qh_live
    rw [qwk_n (fun q => h ⟨q.2.2.1, q.2.2.2⟩)]
theorem qwk_there {C : fj_N} {k i : Nat} (hk : k ≤ i) : qh_there (qwk C k) i ↔ qh_there C i := by
  have e2 : qwk C k 7 i 2 = C 7 i 2 := qwk_n (fun q => by omega)
  have e10 : qwk C k 7 i 10 = C 7 i 10 := qwk_n (fun q => by omega)
  have e11 : qwk C k 7 i 11 = C 7 i 11 := qwk_n (fun q => by omega)
  have ec : ∀ c j, qwk C k 10 c j = C 10 c j := fun c j => qwk_n (fun q => by omega)
  unfold qh_there qh_room qh_ints qh_alive
  simp only [e2, e10, e11, ec, qwk_live]
theorem qwk_0 (C : fj_N) : qwk C 0 = C := by
  funext κ i j
  exact qwk_n (fun q => by omega)
theorem qwk_s1 {C : fj_N} {k : Nat} (h : qh_there C k) : fj_u1 (qwk C k) 7 k 2 1 = qwk C (k + 1) := by
  funext κ i j
  rw [qx_u]
  by_cases h1 : κ = 7 ∧ i = k ∧ j = 2
  · obtain ⟨rfl, rfl, rfl⟩ := h1
    rw [if_pos ⟨rfl, rfl, rfl⟩, qwk_p (by omega) h]
  · rw [if_neg h1]
    by_cases h2 : κ = 7 ∧ j = 2 ∧ i < k ∧ qh_there C i
    · obtain ⟨rfl, rfl, h3, h4⟩ := h2
      rw [qwk_p h3 h4, qwk_p (by omega) h4]
    · rw [qwk_n h2, qwk_n (fun q => h2 ⟨q.1, q.2.1, by omega, q.2.2.2⟩)]
theorem qwk_s0 {C : fj_N} {k : Nat} (h : ¬ qh_there C k) : qwk C k = qwk C (k + 1) := by
  funext κ i j
  by_cases h2 : κ = 7 ∧ j = 2 ∧ i < k ∧ qh_there C i
  · obtain ⟨rfl, rfl, h3, h4⟩ := h2
    rw [qwk_p h3 h4, qwk_p (by omega) h4]
  · rw [qwk_n h2, qwk_n (fun q => h2 ⟨q.1, q.2.1, by
      have hne : i ≠ k := fun e => h (by rw [← e]; exact q.2.2.2)
      omega, q.2.2.2⟩)]
theorem qk_wake_loop {C N : fj_N} : ∀ (m k fuel : Nat), k + m = 12 → m < fuel → dm_47_2 fuel (nI k) (qwk C k, N) = some (qwk C 12, N) := by
  intro m
  induction m with
  | zero =>
    intro k fuel hk hf
    obtain ⟨f, rfl⟩ : ∃ f, fuel = f + 1 := ⟨fuel - 1, by omega⟩
    have hk : k = 12 := by omega
    subst hk
    unfold dm_47_2
    rw [if_pos (show (12 : Int32) ≤ nI 12 from by decide)]
  | succ m ih =>
    intro k fuel hk hf
    obtain ⟨f, rfl⟩ : ∃ f, fuel = f + 1 := ⟨fuel - 1, by omega⟩
    have h1 : ¬ (12 : Int32) ≤ nI k := fun q => by
      have := (qx_le (a := 12) (b := k) (by omega) (by omega)).mp q
      omega
    have hk2 : k < 12 := by omega
    by_cases h : qh_there C k
    · have h2 : qh_there (qwk C k, N).1 k := (qwk_there (Nat.le_refl k)).mpr h
      simp only [dm_47_2, if_neg h1, qx_cl (j := k) (show k ≤ 1000000 by omega), qx_neg (n := k) (show k ≤ 100000000 by omega), Nat.not_le.mpr hk2, or_self, ↓reduceIte, qk_there1 h2, Option.bind_some, qz1, qwk_s1 h, dm_47_31, nI_1]
      exact ih (k + 1) f (by omega) (by omega)
    · have h2 : ¬ qh_there (qwk C k, N).1 k := fun q => h ((qwk_there (Nat.le_refl k)).mp q)
      simp only [dm_47_2, if_neg h1, qx_cl (j := k) (show k ≤ 1000000 by omega), qx_neg (n := k) (show k ≤ 100000000 by omega), Nat.not_le.mpr hk2, or_self, ↓reduceIte, qk_there0 h2, Option.bind_some, dm_47_31, nI_1]
      rw [qwk_s0 h]
      exact ih (k + 1) f (by omega) (by omega)
theorem qk_wake (C N : fj_N) : dm_47 (C, N) = some (qwk C 12, N) := by
  have := qk_wake_loop (C := C) (N := N) 12 0 40 (by omega) (by omega)
  rw [qwk_0] at this
  exact this
/-! the reference -/
theorem qn_live1 {C N : fj_N} {j : Nat} (hj : j < 12) (h : ¬ N 23 0 j < 1 ∧ ¬ 6 < N 23 0 j) : dm_82 (nI j) (C, N) = some (1, (C, N)) := by
  simp only [dm_82, qx_cl (j := j) (show j ≤ 1000000 by omega), qx_neg (n := j) (show j ≤ 100000000 by omega), Nat.not_le.mpr hj, or_self, ↓reduceIte, dm_78, if_neg h.1, if_neg h.2, Option.bind_some]
  rfl
theorem qn_live0 {C N : fj_N} {j : Nat} (hj : j < 12) (h : ¬ (¬ N 23 0 j < 1 ∧ ¬ 6 < N 23 0 j)) : dm_82 (nI j) (C, N) = some (0, (C, N)) := by
  by_cases h1 : N 23 0 j < 1
  · simp only [dm_82, qx_cl (j := j) (show j ≤ 1000000 by omega), qx_neg (n := j) (show j ≤ 100000000 by omega), Nat.not_le.mpr hj, or_self, ↓reduceIte, dm_78, if_pos h1, Option.bind_some]
    rfl
  · have h2 : 6 < N 23 0 j := Classical.not_not.mp fun q => h ⟨h1, q⟩
    simp only [dm_82, qx_cl (j := j) (show j ≤ 1000000 by omega), qx_neg (n := j) (show j ≤ 100000000 by omega), Nat.not_le.mpr hj, or_self, ↓reduceIte, dm_78, if_neg h1, if_pos h2, Option.bind_some]
    rfl
noncomputable def qwn (C N : fj_N) (k : Nat) : fj_N := fun κ i j => @ite _ (κ = 23 ∧ i = 0 ∧ j < k ∧ qh_there C j) (Classical.propDecidable _) 1 (N κ i j)
theorem qwn_p {C N : fj_N} {k j : Nat} (h1 : j < k) (h2 : qh_there C j) : qwn C N k 23 0 j = 1 := if_pos ⟨rfl, rfl, h1, h2⟩
theorem qwn_n {C N : fj_N} {k κ i j : Nat} (h : ¬ (κ = 23 ∧ i = 0 ∧ j < k ∧ qh_there C j)) : qwn C N k κ i j = N κ i j := if_neg h
theorem qwn_0 (C N : fj_N) : qwn C N 0 = N := by
  funext κ i j
  exact qwn_n (fun q => by omega)
theorem qwn_s1 {C N : fj_N} {k : Nat} (h : qh_there C k) : fj_u1 (qwn C N k) 23 0 k 1 = qwn C N (k + 1) := by
  funext κ i j
  rw [qx_u]
  by_cases h1 : κ = 23 ∧ i = 0 ∧ j = k
  · obtain ⟨rfl, rfl, rfl⟩ := h1
    rw [if_pos ⟨rfl, rfl, rfl⟩, qwn_p (by omega) h]
  · rw [if_neg h1]
    by_cases h2 : κ = 23 ∧ i = 0 ∧ j < k ∧ qh_there C j
    · obtain ⟨rfl, rfl, h3, h4⟩ := h2
      rw [qwn_p h3 h4, qwn_p (by omega) h4]
    · rw [qwn_n h2, qwn_n (fun q => h2 ⟨q.1, q.2.1, by omega, q.2.2.2⟩)]
theorem qwn_s0 {C N : fj_N} {k : Nat} (h : ¬ qh_there C k) : qwn C N k = qwn C N (k + 1) := by
  funext κ i j
  by_cases h2 : κ = 23 ∧ i = 0 ∧ j < k ∧ qh_there C j
  · obtain ⟨rfl, rfl, h3, h4⟩ := h2
    rw [qwn_p h3 h4, qwn_p (by omega) h4]
  · rw [qwn_n h2, qwn_n (fun q => h2 ⟨q.1, q.2.1, by
      have hne : j ≠ k := fun e => h (by rw [← e]; exact q.2.2.2)
      omega, q.2.2.2⟩)]
theorem qx_self (N : fj_N) (κ i j : Nat) : fj_u1 N κ i j (N κ i j) = N := by
  funext a b c
  rw [qx_u]
  split
  · rename_i h
    obtain ⟨rfl, rfl, rfl⟩ := h
    rfl
  · rfl
