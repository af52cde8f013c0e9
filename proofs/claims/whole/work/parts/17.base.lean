/-! PURE: NUMBERS, READS AND WRITES -/
theorem qx_u (M : fj_N) (κ i j : Nat) (v : Int32) (a b c : Nat) : fj_u1 M κ i j v a b c = if a = κ ∧ b = i ∧ c = j then v else M a b c := rfl
theorem qx_us (M : fj_N) (κ i j : Nat) (v : Int32) : fj_u1 M κ i j v κ i j = v := by simp [qx_u]
theorem qx_un {M : fj_N} {κ i j : Nat} {v : Int32} {a b c : Nat} (h : ¬ (a = κ ∧ b = i ∧ c = j)) : fj_u1 M κ i j v a b c = M a b c := if_neg h
theorem qx_in {j n : Nat} (h : j < n) (hn : n ≤ 1000000) : ¬ (nI j < 0 ∨ n ≤ (nI j).toNatClampNeg) := by
  intro q
  rcases q with q | q
  · exact nI_pos (by omega) q
  · rw [nI_clamp (by omega)] at q
    omega
theorem qx_if {α : Type} {j n : Nat} {e : Option α} (h : j < n) (hn : n ≤ 1000000) : (if nI j < 0 ∨ n ≤ (nI j).toNatClampNeg then none else e) = e := if_neg (qx_in h hn)
theorem qx_cl {j : Nat} (h : j ≤ 1000000) : (nI j).toNatClampNeg = j := nI_clamp (by omega)
theorem qx_lt {a b : Nat} (ha : a ≤ 100000000) (hb : b ≤ 100000000) : nI a < nI b ↔ a < b := nI_ltI (by omega) (by omega)
theorem qx_le {a b : Nat} (ha : a ≤ 100000000) (hb : b ≤ 100000000) : nI a ≤ nI b ↔ a ≤ b := nI_leI (by omega) (by omega)
theorem qx_eq {a b : Nat} (ha : a ≤ 100000000) (hb : b ≤ 100000000) : nI a = nI b ↔ a = b := nI_eq (by omega) (by omega)
/-- written numbers are nI of them -/
theorem qx_n (n : Nat) : (OfNat.ofNat n : Int32) = nI n := rfl
theorem qx_0 : (0 : Int32) = nI 0 := rfl
theorem qx_1 : (1 : Int32) = nI 1 := rfl
theorem qx_sub {a b : Nat} (h : b ≤ a) : nI a - nI b = nI (a - b) := pk_sub h
theorem qx_add (a b : Nat) : nI a + nI b = nI (a + b) := nI_add a b
theorem qx_mul (a b : Nat) : nI a * nI b = nI (a * b) := pk_mul a b
theorem qx_m1 {n : Nat} (h : n ≤ 100000000) : ¬ nI n = -1 := by
  intro q
  have h1 := nI_pos (n := n) (by omega)
  rw [q] at h1
  exact h1 (by decide)
theorem qx_neg {n : Nat} (h : n ≤ 100000000) : ¬ nI n < 0 := nI_pos (by omega)
theorem qx_nn {n : Nat} (h : n ≤ 100000000) : (0 : Int32) ≤ nI n := nI_pos' (by omega)
/-- any int beside a bound -/
theorem qx_ix (x : Int32) {n : Nat} (hn : n ≤ 1000000) : x < 0 ∨ (¬ x < 0 ∧ nI n ≤ x) ∨ ∃ j : Nat, j < n ∧ x = nI j := by
  rcases pk_ix x (n := n) (by omega) with h | h | h
  · exact Or.inl h
  · by_cases h0 : x < 0
    · exact Or.inl h0
    · exact Or.inr (Or.inl ⟨h0, h⟩)
  · exact Or.inr (Or.inr h)
theorem qx_lt_not {x y : Int32} (h : x ≤ y) : ¬ y < x := Int32.not_lt.mpr h
theorem qx_not_lt {x y : Int32} (h : ¬ y < x) : x ≤ y := Int32.not_lt.mp h
theorem qx_not_le {x y : Int32} (h : ¬ x ≤ y) : y < x := Int32.not_le.mp h
theorem qx_pred {x : Int32} {n : Nat} (hn : n ≤ 1000000) (h : 0 < n) : nI (n - 1) < x ↔ nI n ≤ x := by
  rw [Int32.lt_iff_toInt_lt, Int32.le_iff_toInt_le, nI_toInt (by omega), nI_toInt (by omega)]
  omega
