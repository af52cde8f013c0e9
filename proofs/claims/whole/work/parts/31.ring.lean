/-! WHOSE TURN IT IS -/
theorem qx_rem12 (a : Nat) (h : a ≤ 1000) : nI a - nI a / 12 * 12 = nI (a % 12) := pk_rem (a := a) (d := 12) (by omega) (by omega) (by omega)
theorem qx_ring (P : Nat → Prop) : (∀ k, 1 ≤ k → k ≤ 12 → ¬ P k) ∨ ∃ k, 1 ≤ k ∧ k ≤ 12 ∧ P k ∧ ∀ j, 1 ≤ j → j < k → ¬ P j := by
  have key : ∀ n, (∀ k, 1 ≤ k → k ≤ n → ¬ P k) ∨ ∃ k, 1 ≤ k ∧ k ≤ n ∧ P k ∧ ∀ j, 1 ≤ j → j < k → ¬ P j := by
    intro n
    induction n with
    | zero => exact Or.inl (fun k h1 h2 => by omega)
    | succ n ih =>
      rcases ih with h | ⟨k, h1, h2, h3, h4⟩
      · by_cases hn : P (n + 1)
        · exact Or.inr ⟨n + 1, by omega, by omega, hn, fun j h1 h2 => h j h1 (by omega)⟩
        · refine Or.inl (fun k h1 h2 => ?_)
          rcases Nat.lt_or_ge k (n + 1) with q | q
          · exact h k h1 (by omega)
          · rw [show k = n + 1 by omega]; exact hn
      · exact Or.inr ⟨k, h1, by omega, h3, h4⟩
  exact key 12
section QRG
variable {C N C0 : fj_N} {t : Nat}
/-- the class's memory with task u's turn, with a new quantum -/
def qtu (C : fj_N) (u : Nat) : fj_N := fj_u1 (fj_u1 C 0 0 8 (nI u)) 0 0 9 (C 0 0 6)
theorem qk_ring1 (ht : C 0 0 8 = nI t) (ht2 : t < 12) {k : Nat} (hk : k ≤ 12) (hp : C 7 ((t + k) % 12) 2 = 1) (hn : ∀ j, 1 ≤ j → j < k → ¬ C 7 ((t + j) % 12) 2 = 1) : ∀ (m j fuel : Nat) (o : Option fj_V), 1 ≤ j → j + m = k → m < fuel → dm_50_27 fuel (nI j) o (C, N) = some (1, (qtu C ((t + k) % 12), N)) := by
  intro m
  induction m with
  | zero =>
    intro j fuel o h1 hj hf
    obtain ⟨f, rfl⟩ : ∃ f, fuel = f + 1 := ⟨fuel - 1, by omega⟩
    have hj : j = k := by omega
    subst hj
    have h12 : ¬ (12 : Int32) < nI j := fun q => by
      have := (qx_lt (a := 12) (b := j) (by omega) (by omega)).mp q
      omega
    have hu : (t + j) % 12 < 12 := by omega
    simp only [dm_50_27, if_neg h12, ht, qx_add, qx_rem12 (t + j) (by omega)]
    unfold qtu
    generalize (t + j) % 12 = u at *
    simp only [qx_cl (j := u) (show u ≤ 1000000 by omega), qx_neg (n := u) (show u ≤ 100000000 by omega), Nat.not_le.mpr hu, or_self, ↓reduceIte, hp, qx_un (M := C) (κ := 0) (i := 0) (j := 8) (v := nI u) (a := 0) (b := 0) (c := 6) (by omega)]
  | succ m ih =>
    intro j fuel o h1 hj hf
    obtain ⟨f, rfl⟩ : ∃ f, fuel = f + 1 := ⟨fuel - 1, by omega⟩
    have h12 : ¬ (12 : Int32) < nI j := fun q => by
      have := (qx_lt (a := 12) (b := j) (by omega) (by omega)).mp q
      omega
    have hu : (t + j) % 12 < 12 := by omega
    have hq := hn j h1 (by omega)
    simp only [dm_50_27, if_neg h12, ht, qx_add, qx_rem12 (t + j) (by omega), nI_1]
    generalize (t + j) % 12 = u at *
    simp only [qx_cl (j := u) (show u ≤ 1000000 by omega), qx_neg (n := u) (show u ≤ 100000000 by omega), Nat.not_le.mpr hu, or_self, ↓reduceIte, if_neg hq]
    exact ih (j + 1) f _ (by omega) (by omega) (by omega)
theorem qk_ring0 (ht : C 0 0 8 = nI t) (ht2 : t < 12) (hn : ∀ j, 1 ≤ j → j ≤ 12 → ¬ C 7 ((t + j) % 12) 2 = 1) : ∀ (m j fuel : Nat) (o : Option fj_V), 1 ≤ j → j + m = 13 → m < fuel → dm_50_27 fuel (nI j) o (C, N) = some (0, (C, N)) := by
  intro m
  induction m with
  | zero =>
    intro j fuel o h1 hj hf
    obtain ⟨f, rfl⟩ : ∃ f, fuel = f + 1 := ⟨fuel - 1, by omega⟩
    have hj : j = 13 := by omega
    subst hj
    unfold dm_50_27
    rw [if_pos (show (12 : Int32) < nI 13 from by decide)]
  | succ m ih =>
    intro j fuel o h1 hj hf
    obtain ⟨f, rfl⟩ : ∃ f, fuel = f + 1 := ⟨fuel - 1, by omega⟩
    have h12 : ¬ (12 : Int32) < nI j := fun q => by
      have := (qx_lt (a := 12) (b := j) (by omega) (by omega)).mp q
      omega
    have hu : (t + j) % 12 < 12 := by omega
    have hq := hn j h1 (by omega)
    simp only [dm_50_27, if_neg h12, ht, qx_add, qx_rem12 (t + j) (by omega), nI_1]
    generalize (t + j) % 12 = u at *
    simp only [qx_cl (j := u) (show u ≤ 1000000 by omega), qx_neg (n := u) (show u ≤ 100000000 by omega), Nat.not_le.mpr hu, or_self, ↓reduceIte, if_neg hq]
    exact ih (j + 1) f _ (by omega) (by omega) (by omega)
theorem qn_ring1 (ht : N 20 0 20 = nI t) (ht2 : t < 12) {k : Nat} (hk : k ≤ 12) (hp : N 23 0 ((t + k) % 12) = 1) (hn : ∀ j, 1 ≤ j → j < k → ¬ N 23 0 ((t + j) % 12) = 1) : ∀ (m j fuel : Nat) (o : Option fj_V), 1 ≤ j → j + m = k → m < fuel → dm_96_2 fuel (nI j) o (C0, N) = some (nI ((t + k) % 12), (C0, N)) := by
  intro m
  induction m with
  | zero =>
    intro j fuel o h1 hj hf
    obtain ⟨f, rfl⟩ : ∃ f, fuel = f + 1 := ⟨fuel - 1, by omega⟩
    have hj : j = k := by omega
    subst hj
    have h12 : ¬ (12 : Int32) < nI j := fun q => by
      have := (qx_lt (a := 12) (b := j) (by omega) (by omega)).mp q
      omega
    have hu : (t + j) % 12 < 12 := by omega
    simp only [dm_96_2, if_neg h12, ht, qx_add, qx_rem12 (t + j) (by omega)]
    generalize (t + j) % 12 = u at *
    simp only [qx_cl (j := u) (show u ≤ 1000000 by omega), qx_neg (n := u) (show u ≤ 100000000 by omega), Nat.not_le.mpr hu, or_self, ↓reduceIte, hp]
  | succ m ih =>
    intro j fuel o h1 hj hf
    obtain ⟨f, rfl⟩ : ∃ f, fuel = f + 1 := ⟨fuel - 1, by omega⟩
    have h12 : ¬ (12 : Int32) < nI j := fun q => by
      have := (qx_lt (a := 12) (b := j) (by omega) (by omega)).mp q
      omega
    have hu : (t + j) % 12 < 12 := by omega
    have hq := hn j h1 (by omega)
    simp only [dm_96_2, if_neg h12, ht, qx_add, qx_rem12 (t + j) (by omega), nI_1]
    generalize (t + j) % 12 = u at *
    simp only [qx_cl (j := u) (show u ≤ 1000000 by omega), qx_neg (n := u) (show u ≤ 100000000 by omega), Nat.not_le.mpr hu, or_self, ↓reduceIte, if_neg hq]
    exact ih (j + 1) f _ (by omega) (by omega) (by omega)
theorem qn_ring0 (ht : N 20 0 20 = nI t) (ht2 : t < 12) (hn : ∀ j, 1 ≤ j → j ≤ 12 → ¬ N 23 0 ((t + j) % 12) = 1) : ∀ (m j fuel : Nat) (o : Option fj_V), 1 ≤ j → j + m = 13 → m < fuel → dm_96_2 fuel (nI j) o (C0, N) = some (-1, (C0, N)) := by
  intro m
  induction m with
  | zero =>
    intro j fuel o h1 hj hf
    obtain ⟨f, rfl⟩ : ∃ f, fuel = f + 1 := ⟨fuel - 1, by omega⟩
    have hj : j = 13 := by omega
    subst hj
    unfold dm_96_2
    rw [if_pos (show (12 : Int32) < nI 13 from by decide)]
  | succ m ih =>
    intro j fuel o h1 hj hf
    obtain ⟨f, rfl⟩ : ∃ f, fuel = f + 1 := ⟨fuel - 1, by omega⟩
    have h12 : ¬ (12 : Int32) < nI j := fun q => by
      have := (qx_lt (a := 12) (b := j) (by omega) (by omega)).mp q
      omega
    have hu : (t + j) % 12 < 12 := by omega
    have hq := hn j h1 (by omega)
    simp only [dm_96_2, if_neg h12, ht, qx_add, qx_rem12 (t + j) (by omega), nI_1]
    generalize (t + j) % 12 = u at *
    simp only [qx_cl (j := u) (show u ≤ 1000000 by omega), qx_neg (n := u) (show u ≤ 100000000 by omega), Nat.not_le.mpr hu, or_self, ↓reduceIte, if_neg hq]
    exact ih (j + 1) f _ (by omega) (by omega) (by omega)
end QRG
