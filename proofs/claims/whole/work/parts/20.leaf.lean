/-! LEAVES: stacks, returns, channels, what is there -/
section QK
variable {M : fj_M} {i d n c : Nat} {x : Int32}
theorem qk_push (hd : M.1 7 i 4 = nI d) (h : d < 24) : dm_11 i x M = some ((fj_u1 (fj_u1 M.1 7 i 4 (nI (d + 1))) 8 i d x), M.2) := by
  have h1 : ¬ (24 : Int32) ≤ nI d := fun q => by
    have := (qx_le (a := 24) (b := d) (by omega) (by omega)).mp q
    omega
  simp only [dm_11, hd, if_neg h1, qx_cl (j := d) (show d ≤ 1000000 by omega), qx_neg (n := d) (show d ≤ 100000000 by omega), Nat.not_le.mpr h, or_self, ↓reduceIte, nI_1]
theorem qk_pop (hd : M.1 7 i 4 = nI (d + 1)) (h : d < 24) : dm_12 i M = some (M.1 8 i d, ((fj_u1 M.1 7 i 4 (nI d)), M.2)) := by
  have h1 : ¬ nI (d + 1) ≤ 0 := nI_nle (by omega) (by omega)
  simp only [dm_12, hd, if_neg h1, nI_pred, qx_cl (j := d) (show d ≤ 1000000 by omega), qx_neg (n := d) (show d ≤ 100000000 by omega), Nat.not_le.mpr h, or_self, ↓reduceIte]
  rw [qx_un (by omega)]
theorem qk_below0 (hd : M.1 7 i 4 = nI (d + 1)) (h : d < 24) : dm_13 i 0 M = some (M.1 8 i d, M) := by
  have h1 : ¬ nI (d + 1) ≤ 0 := nI_nle (by omega) (by omega)
  have h2 : ¬ (0 : Int32) < 0 := by decide
  simp only [dm_13, hd, if_neg h1, if_neg h2, nI_pred, Int32.sub_zero, qx_cl (j := d) (show d ≤ 1000000 by omega), qx_neg (n := d) (show d ≤ 100000000 by omega), Nat.not_le.mpr h, or_self, ↓reduceIte]
theorem qk_below00 (hd : M.1 7 i 4 = nI 0) : dm_13 i 0 M = some (0, M) := by
  have h2 : ¬ (0 : Int32) < 0 := by decide
  simp only [dm_13, hd, if_neg h2, if_pos (show nI 0 ≤ 0 from by decide)]
theorem qk_belowk {k : Nat} (hd : M.1 7 i 4 = nI d) (h : d ≤ 24) (hk : k < d) : dm_13 i (nI k) M = some (M.1 8 i (d - 1 - k), M) := by
  have h1 : ¬ nI d ≤ nI k := fun q => by
    have := (qx_le (a := d) (b := k) (by omega) (by omega)).mp q
    omega
  have h3 : nI d - 1 - nI k = nI (d - 1 - k) := by
    rw [show (1 : Int32) = nI 1 from rfl, qx_sub (by omega), qx_sub (by omega)]
  have h4 : d - 1 - k < 24 := by omega
  simp only [dm_13, hd, if_neg h1, if_neg (qx_neg (n := k) (by omega)), h3]
  generalize d - 1 - k = w at *
  simp only [qx_cl (j := w) (show w ≤ 1000000 by omega), qx_neg (n := w) (show w ≤ 100000000 by omega), Nat.not_le.mpr h4, or_self, ↓reduceIte]
theorem qk_pushR (hd : M.1 7 i 5 = nI d) (h : d < 12) : dm_14 i x M = some ((fj_u1 (fj_u1 M.1 7 i 5 (nI (d + 1))) 9 i d x), M.2) := by
  have h1 : ¬ (12 : Int32) ≤ nI d := fun q => by
    have := (qx_le (a := 12) (b := d) (by omega) (by omega)).mp q
    omega
  simp only [dm_14, hd, if_neg h1, qx_cl (j := d) (show d ≤ 1000000 by omega), qx_neg (n := d) (show d ≤ 100000000 by omega), Nat.not_le.mpr h, or_self, ↓reduceIte, nI_1]
theorem qk_popR (hd : M.1 7 i 5 = nI (d + 1)) (h : d < 12) : dm_15 i M = some (M.1 9 i d, ((fj_u1 M.1 7 i 5 (nI d)), M.2)) := by
  have h1 : ¬ nI (d + 1) ≤ 0 := nI_nle (by omega) (by omega)
  simp only [dm_15, hd, if_neg h1, nI_pred, qx_cl (j := d) (show d ≤ 1000000 by omega), qx_neg (n := d) (show d ≤ 100000000 by omega), Nat.not_le.mpr h, or_self, ↓reduceIte]
  rw [qx_un (by omega)]
theorem qk_append (hn : M.1 10 c 1 = nI n) (h : n < 8) : dm_0 c x M = some ((fj_u1 (fj_u1 M.1 10 c 1 (nI (n + 1))) 11 c n x), M.2) := by
  have h1 : ¬ (8 : Int32) ≤ nI n := fun q => by
    have := (qx_le (a := 8) (b := n) (by omega) (by omega)).mp q
    omega
  simp only [dm_0, hn, if_neg h1, qx_cl (j := n) (show n ≤ 1000000 by omega), qx_neg (n := n) (show n ≤ 100000000 by omega), Nat.not_le.mpr h, or_self, ↓reduceIte, nI_1]
end QK
/-- the class's channel c without its first, k ints moved -/
def qsh (C : fj_N) (c k : Nat) : fj_N := fun κ i j => if κ = 11 ∧ i = c ∧ j < k then C 11 c (j + 1) else C κ i j
theorem qsh_0 (C : fj_N) (c : Nat) : qsh C c 0 = C := by
  funext κ i j
  simp [qsh]
theorem qsh_s (C : fj_N) (c k : Nat) : fj_u1 (qsh C c k) 11 c k (qsh C c k 11 c (k + 1)) = qsh C c (k + 1) := by
  funext κ i j
  simp only [qx_u, qsh]
  by_cases h : κ = 11 ∧ i = c ∧ j = k
  · obtain ⟨rfl, rfl, rfl⟩ := h
    simp
    intro q
    omega
  · rw [if_neg h]
    by_cases h2 : κ = 11 ∧ i = c ∧ j < k
    · rw [if_pos h2, if_pos ⟨h2.1, h2.2.1, by omega⟩]
    · rw [if_neg h2, if_neg (by omega)]
theorem qk_shift {C N : fj_N} {c n : Nat} {v : Int32} (hn : C 10 c 1 = nI (n + 1)) (h : n < 8) : ∀ (m k fuel : Nat), k + m = n → m < fuel → dm_1_18 fuel c v (nI (k + 1)) (qsh C c k, N) = some (v, (fj_u1 (qsh C c n) 10 c 1 (nI n), N)) := by
  intro m
  induction m with
  | zero =>
    intro k fuel hk hf
    obtain ⟨f, rfl⟩ : ∃ f, fuel = f + 1 := ⟨fuel - 1, by omega⟩
    have hk : k = n := by omega
    subst hk
    have hc : qsh C c k 10 c 1 = nI (k + 1) := by rw [← hn]; exact if_neg (by omega)
    simp only [dm_1_18, hc, if_pos (Int32.le_refl (nI (k + 1))), nI_pred]
  | succ m ih =>
    intro k fuel hk hf
    obtain ⟨f, rfl⟩ : ∃ f, fuel = f + 1 := ⟨fuel - 1, by omega⟩
    have hc : qsh C c k 10 c 1 = nI (n + 1) := by rw [← hn]; exact if_neg (by omega)
    have h1 : ¬ nI (n + 1) ≤ nI (k + 1) := fun q => by
      have := (qx_le (a := n + 1) (b := k + 1) (by omega) (by omega)).mp q
      omega
    have h2 : ¬ (8 : Int32) ≤ nI (k + 1) := fun q => by
      have := (qx_le (a := 8) (b := k + 1) (by omega) (by omega)).mp q
      omega
    have h3 : k + 1 < 8 := by omega
    have h4 : k < 8 := by omega
    have e1 := qx_if (α := Int32 × fj_M) (e := (if nI (k + 1) - 1 < 0 ∨ 8 ≤ (nI (k + 1) - 1).toNatClampNeg then none else dm_1_18 f c v (nI (k + 1) + 1) (fj_u1 (qsh C c k) 11 c ((nI (k + 1) - 1).toNatClampNeg) (qsh C c k 11 c (nI (k + 1)).toNatClampNeg), N))) h3 (by omega)
    unfold dm_1_18
    simp only [hc]
    rw [if_neg h1, if_neg h2, e1, nI_pred, qx_if h4 (by omega), qx_cl (j := k) (by omega), qx_cl (j := k + 1) (by omega), qsh_s, nI_1]
    exact ih (k + 1) f (by omega) (by omega)
theorem qk_remove {C N : fj_N} {c n : Nat} (hn : C 10 c 1 = nI (n + 1)) (h : n < 8) : dm_1 c (C, N) = some (C 11 c 0, (fj_u1 (qsh C c n) 10 c 1 (nI n), N)) := by
  have h1 : ¬ nI (n + 1) = 0 := nI_ne0 (by omega) (by omega)
  unfold dm_1
  simp only [hn, if_neg h1]
  have := qk_shift (C := C) (N := N) (c := c) (n := n) (v := C 11 c 0) hn h n 0 40 (by omega) (by omega)
  rw [qsh_0] at this
  exact this
/-! what is there -/
theorem qx_mid {x : Int32} {n : Nat} (hn : n ≤ 1000000) (h0 : ¬ x < 0) (h1 : ¬ nI n ≤ x) : ∃ j, j < n ∧ x = nI j := by
  rcases qx_ix x hn with h | h | h
  · exact absurd h h0
  · exact absurd h.2 h1
  · exact h
section QL
variable {M : fj_M} {x : Int32} {i : Nat}
theorem qk_live1 (h : qh_live M.1 i) : dm_6 i M = some (1, M) := by
  unfold dm_6
  rw [if_neg h.1, if_neg h.2]
theorem qk_live0 (h : ¬ qh_live M.1 i) : dm_6 i M = some (0, M) := by
  unfold dm_6
  by_cases h1 : M.1 7 i 2 < 1
  · rw [if_pos h1]
  · rw [if_neg h1, if_pos (Classical.not_not.mp fun h2 => h ⟨h1, h2⟩)]
theorem qk_alive1 (h : qh_alive M.1 x) : dm_39 x M = some (1, M) := by
  obtain ⟨h0, h1, h2⟩ := h
  obtain ⟨j, hj, rfl⟩ := qx_mid (n := 12) (by decide) h0 h1
  rw [qx_cl (by omega)] at h2
  simp only [dm_39, if_neg h1, qx_cl (j := j) (show j ≤ 1000000 by omega), qx_neg (n := j) (show j ≤ 100000000 by omega), Nat.not_le.mpr hj, or_self, ↓reduceIte, qk_live1 h2, Option.bind_some, qz1]
theorem qk_alive0 (h : ¬ qh_alive M.1 x) : dm_39 x M = some (0, M) := by
  unfold dm_39
  by_cases h0 : x < 0
  · rw [if_pos h0]
  by_cases h1 : 12 ≤ x
  · rw [if_neg h0, if_pos h1]
  obtain ⟨j, hj, rfl⟩ := qx_mid (n := 12) (by decide) h0 h1
  have h2 : ¬ qh_live M.1 j := fun q => h ⟨h0, h1, by rw [qx_cl (by omega)]; exact q⟩
  simp only [if_neg h1, qx_cl (j := j) (show j ≤ 1000000 by omega), qx_neg (n := j) (show j ≤ 100000000 by omega), Nat.not_le.mpr hj, or_self, ↓reduceIte, qk_live0 h2, Option.bind_some]
theorem qk_room1 (h : qh_room M.1 x) : dm_40 x M = some (1, M) := by
  obtain ⟨h0, h1, h2⟩ := h
  obtain ⟨j, hj, rfl⟩ := qx_mid (n := 6) (by decide) h0 h1
  rw [qx_cl (by omega)] at h2
  simp only [dm_40, if_neg h1, qx_cl (j := j) (show j ≤ 1000000 by omega), qx_neg (n := j) (show j ≤ 100000000 by omega), Nat.not_le.mpr hj, or_self, ↓reduceIte, if_neg h2]
theorem qk_room0 (h : ¬ qh_room M.1 x) : dm_40 x M = some (0, M) := by
  unfold dm_40
  by_cases h0 : x < 0
  · rw [if_pos h0]
  by_cases h1 : 6 ≤ x
  · rw [if_neg h0, if_pos h1]
  obtain ⟨j, hj, rfl⟩ := qx_mid (n := 6) (by decide) h0 h1
  have h2 : M.1 10 j 2 ≤ M.1 10 j 1 := Classical.not_not.mp fun q => h ⟨h0, h1, by rw [qx_cl (by omega)]; exact q⟩
  simp only [if_neg h1, qx_cl (j := j) (show j ≤ 1000000 by omega), qx_neg (n := j) (show j ≤ 100000000 by omega), Nat.not_le.mpr hj, or_self, ↓reduceIte, if_pos h2]
theorem qk_ints1 (h : qh_ints M.1 x) : dm_41 x M = some (1, M) := by
  obtain ⟨h0, h1, h2⟩ := h
  obtain ⟨j, hj, rfl⟩ := qx_mid (n := 6) (by decide) h0 h1
  rw [qx_cl (by omega)] at h2
  simp only [dm_41, if_neg h1, qx_cl (j := j) (show j ≤ 1000000 by omega), qx_neg (n := j) (show j ≤ 100000000 by omega), Nat.not_le.mpr hj, or_self, ↓reduceIte, if_neg h2]
theorem qk_ints0 (h : ¬ qh_ints M.1 x) : dm_41 x M = some (0, M) := by
  unfold dm_41
  by_cases h0 : x < 0
  · rw [if_pos h0]
  by_cases h1 : 6 ≤ x
  · rw [if_neg h0, if_pos h1]
  obtain ⟨j, hj, rfl⟩ := qx_mid (n := 6) (by decide) h0 h1
  have h2 : M.1 10 j 1 ≤ 0 := Classical.not_not.mp fun q => h ⟨h0, h1, by rw [qx_cl (by omega)]; exact q⟩
  simp only [if_neg h1, qx_cl (j := j) (show j ≤ 1000000 by omega), qx_neg (n := j) (show j ≤ 100000000 by omega), Nat.not_le.mpr hj, or_self, ↓reduceIte, if_pos h2]
end QL
