/-! SPAWNING -/
theorem qk_least1 {C N : fj_N} {i : Nat} (hi : i < 12) (hl : ¬ qh_live C i) (ha : ∀ j, j < i → qh_live C j) : ∀ (m k fuel : Nat), k + m = i → m < fuel → dm_45_2 fuel (nI k) (C, N) = some (nI i, (C, N)) := by
  intro m
  induction m with
  | zero =>
    intro k fuel hk hf
    obtain ⟨f, rfl⟩ : ∃ f, fuel = f + 1 := ⟨fuel - 1, by omega⟩
    have hk : k = i := by omega
    subst hk
    simp only [dm_45_2, if_neg (qx_out12 hi), qx_cl (j := k) (show k ≤ 1000000 by omega), qx_neg (n := k) (show k ≤ 100000000 by omega), Nat.not_le.mpr hi, or_self, ↓reduceIte, qk_live0 (M := (C, N)) hl, Option.bind_some]
  | succ m ih =>
    intro k fuel hk hf
    obtain ⟨f, rfl⟩ : ∃ f, fuel = f + 1 := ⟨fuel - 1, by omega⟩
    have hk2 : k < 12 := by omega
    simp only [dm_45_2, if_neg (qx_out12 hk2), qx_cl (j := k) (show k ≤ 1000000 by omega), qx_neg (n := k) (show k ≤ 100000000 by omega), Nat.not_le.mpr hk2, or_self, ↓reduceIte, qk_live1 (M := (C, N)) (ha k (by omega)), Option.bind_some, qz1, nI_1]
    exact ih (k + 1) f (by omega) (by omega)
theorem qk_least0 {C N : fj_N} (ha : ∀ j, j < 12 → qh_live C j) : ∀ (m k fuel : Nat), k + m = 12 → m < fuel → dm_45_2 fuel (nI k) (C, N) = some (-1, (C, N)) := by
  intro m
  induction m with
  | zero =>
    intro k fuel hk hf
    obtain ⟨f, rfl⟩ : ∃ f, fuel = f + 1 := ⟨fuel - 1, by omega⟩
    have hk : k = 12 := by omega
    subst hk
    unfold dm_45_2
    rw [if_pos (show (12 : Int32) ≤ nI 12 from by decide)]
  | succ m ih =>
    intro k fuel hk hf
    obtain ⟨f, rfl⟩ : ∃ f, fuel = f + 1 := ⟨fuel - 1, by omega⟩
    have hk2 : k < 12 := by omega
    simp only [dm_45_2, if_neg (qx_out12 hk2), qx_cl (j := k) (show k ≤ 1000000 by omega), qx_neg (n := k) (show k ≤ 100000000 by omega), Nat.not_le.mpr hk2, or_self, ↓reduceIte, qk_live1 (M := (C, N)) (ha k (by omega)), Option.bind_some, qz1, nI_1]
    exact ih (k + 1) f (by omega) (by omega)
theorem qn_least1 {C C0 N : fj_N} {i : Nat} (hi : i < 12) (hv : ∀ j, j < 12 → ((¬ N 23 0 j < 1 ∧ ¬ 6 < N 23 0 j) ↔ qh_live C j)) (hl : ¬ qh_live C i) (ha : ∀ j, j < i → qh_live C j) : ∀ (k fuel : Nat) (v : Int32), k ≤ 12 → k < fuel → dm_83_5 fuel v (nI k + (-1)) (C0, N) = some (if i < k then nI i else v, (C0, N)) := by
  intro k
  induction k with
  | zero =>
    intro fuel v hk hf
    obtain ⟨f, rfl⟩ : ∃ f, fuel = f + 1 := ⟨fuel - 1, by omega⟩
    unfold dm_83_5
    rw [if_pos (show nI 0 + (-1) < 0 from by decide), if_neg (by omega)]
  | succ k ih =>
    intro fuel v hk hf
    obtain ⟨f, rfl⟩ : ∃ f, fuel = f + 1 := ⟨fuel - 1, by omega⟩
    have hk2 : k < 12 := by omega
    rw [pk_m1]
    unfold dm_83_5
    rw [if_neg (qx_neg (by omega))]
    by_cases h : qh_live C k
    · have hne : k ≠ i := fun e => hl (by rw [← e]; exact h)
      simp only [qn_live1 (C := C0) hk2 ((hv k hk2).mpr h), Option.bind_some, qz1, dm_83_22]
      rw [ih f v (by omega) (by omega)]
      by_cases h2 : i < k
      · rw [if_pos h2, if_pos (by omega)]
      · rw [if_neg h2, if_neg (by omega)]
    · have hge : i ≤ k := by
        rcases Nat.lt_or_ge k i with q | q
        · exact absurd (ha k q) h
        · exact q
      simp only [qn_live0 (C := C0) hk2 (fun q => h ((hv k hk2).mp q)), Option.bind_some, ↓reduceIte, dm_83_22]
      rw [ih f (nI k) (by omega) (by omega), if_pos (show i < k + 1 by omega)]
      by_cases h2 : i < k
      · rw [if_pos h2]
      · rw [if_neg h2, show k = i by omega]
theorem qn_least0 {C C0 N : fj_N} (hv : ∀ j, j < 12 → ((¬ N 23 0 j < 1 ∧ ¬ 6 < N 23 0 j) ↔ qh_live C j)) (ha : ∀ j, j < 12 → qh_live C j) : ∀ (k fuel : Nat) (v : Int32), k ≤ 12 → k < fuel → dm_83_5 fuel v (nI k + (-1)) (C0, N) = some (v, (C0, N)) := by
  intro k
  induction k with
  | zero =>
    intro fuel v hk hf
    obtain ⟨f, rfl⟩ : ∃ f, fuel = f + 1 := ⟨fuel - 1, by omega⟩
    unfold dm_83_5
    rw [if_pos (show nI 0 + (-1) < 0 from by decide)]
  | succ k ih =>
    intro fuel v hk hf
    obtain ⟨f, rfl⟩ : ∃ f, fuel = f + 1 := ⟨fuel - 1, by omega⟩
    have hk2 : k < 12 := by omega
    rw [pk_m1]
    unfold dm_83_5
    rw [if_neg (qx_neg (by omega))]
    simp only [qn_live1 (C := C0) hk2 ((hv k hk2).mpr (ha k hk2)), Option.bind_some, qz1, dm_83_22]
    exact ih f v (by omega) (by omega)
/-- either all are live, or there is a least that isn't -/
theorem qx_least (C : fj_N) : (∀ j, j < 12 → qh_live C j) ∨ ∃ i, i < 12 ∧ ¬ qh_live C i ∧ ∀ j, j < i → qh_live C j := by
  have key : ∀ n, (∀ j, j < n → qh_live C j) ∨ ∃ i, i < n ∧ ¬ qh_live C i ∧ ∀ j, j < i → qh_live C j := by
    intro n
    induction n with
    | zero => exact Or.inl (fun j hj => absurd hj (Nat.not_lt_zero j))
    | succ n ih =>
      rcases ih with h | ⟨i, h1, h2, h3⟩
      · by_cases hn : qh_live C n
        · refine Or.inl (fun j hj => ?_)
          rcases Nat.lt_or_ge j n with q | q
          · exact h j q
          · rw [show j = n by omega]; exact hn
        · exact Or.inr ⟨n, by omega, hn, h⟩
      · exact Or.inr ⟨i, by omega, h2, h3⟩
  exact key 12
theorem qk_least_some {C N : fj_N} {i : Nat} (hi : i < 12) (hl : ¬ qh_live C i) (ha : ∀ j, j < i → qh_live C j) : dm_45 (C, N) = some (nI i, (C, N)) := qk_least1 hi hl ha i 0 40 (by omega) (by omega)
theorem qk_least_none {C N : fj_N} (ha : ∀ j, j < 12 → qh_live C j) : dm_45 (C, N) = some (-1, (C, N)) := qk_least0 ha 12 0 40 (by omega) (by omega)
theorem qn_least_some {C C0 N : fj_N} {i : Nat} (hi : i < 12) (hv : ∀ j, j < 12 → ((¬ N 23 0 j < 1 ∧ ¬ 6 < N 23 0 j) ↔ qh_live C j)) (hl : ¬ qh_live C i) (ha : ∀ j, j < i → qh_live C j) : dm_83 (C0, N) = some (nI i, (C0, N)) := by
  have := qn_least1 (C0 := C0) hi hv hl ha 12 40 (-1) (by omega) (by omega)
  rw [if_pos hi] at this
  exact this
theorem qn_least_none {C C0 N : fj_N} (hv : ∀ j, j < 12 → ((¬ N 23 0 j < 1 ∧ ¬ 6 < N 23 0 j) ↔ qh_live C j)) (ha : ∀ j, j < 12 → qh_live C j) : dm_83 (C0, N) = some (-1, (C0, N)) := qn_least0 hv ha 12 40 (-1) (by omega) (by omega)
