/-! THE RELATION BETWEEN THE CLASS'S MEMORY AND THE REFERENCE'S -/
def qx_w (s : Int32) : Prop := s = 2 ∨ s = 3 ∨ s = 4 ∨ s = 6
/-- task i -/
def qT (C N : fj_N) (i : Nat) : Prop :=
  (N 23 0 i = C 7 i 2 ∧ N 24 0 i = C 7 i 3 ∧ N 25 0 i = C 7 i 4 ∧ N 27 0 i = C 7 i 5 ∧ N 29 0 i = C 7 i 6 ∧ N 30 0 i = C 7 i 7 ∧ N 31 0 i = (if C 7 i 2 = 5 then C 7 i 8 else 0) ∧ N 32 0 i = C 7 i 9)
  ∧ ((qx_w (C 7 i 2) → N 33 0 i = C 7 i 10) ∧ (C 7 i 2 = 4 → N 34 0 i = C 7 i 11))
  ∧ (∃ d : Nat, d ≤ 24 ∧ C 7 i 4 = nI d ∧ ∀ j, j < d → N 26 0 (24 * i + j) = C 8 i j)
  ∧ (∃ r : Nat, r ≤ 12 ∧ C 7 i 5 = nI r ∧ ∀ j, j < r → N 28 0 (12 * i + j) = C 9 i j)
  ∧ (∃ s : Nat, s ≤ 8 ∧ C 7 i 2 = nI s)
  ∧ (C 7 i 6 = -1 ∨ ∃ p : Nat, p < 512 ∧ C 7 i 6 = nI p)
  ∧ ((C 7 i 2 = 2 ∨ C 7 i 2 = 3 ∨ C 7 i 2 = 4 → ∃ c : Nat, c < 6 ∧ C 7 i 10 = nI c) ∧ (C 7 i 2 = 4 → ∃ c : Nat, c < 6 ∧ C 7 i 11 = nI c) ∧ (C 7 i 2 = 6 → ∃ k : Nat, k < 12 ∧ C 7 i 10 = nI k))
/-- channel c -/
def qC (C N : fj_N) (c : Nat) : Prop := N 36 0 c = C 10 c 1 ∧ N 35 0 c = C 10 c 2 ∧ ∃ n z : Nat, n ≤ z ∧ 1 ≤ z ∧ z ≤ 8 ∧ C 10 c 1 = nI n ∧ C 10 c 2 = nI z ∧ ∀ j, j < n → N 37 0 (8 * c + j) = C 11 c j
/-- a bound of what was printed, and whether the latest step's word agrees -/
abbrev qB : Type := Nat × Bool
def qS (B : qB) (C N : fj_N) : Prop := (N 20 0 18 = C 0 0 11 ∧ N 20 0 19 = C 0 0 10 ∧ N 20 0 20 = C 0 0 8 ∧ N 20 0 21 = C 0 0 9 ∧ N 20 0 22 = C 0 0 6 ∧ (B.2 = true → N 20 0 23 = C 0 0 7) ∧ N 20 0 24 = C 0 0 12 ∧ N 20 0 25 = C 0 0 13) ∧ (∃ t : Nat, t < 12 ∧ C 0 0 8 = nI t) ∧ ∃ p : Nat, p ≤ B.1 ∧ C 0 0 11 = nI p
def qA (C N : fj_N) : Prop := (∀ j, j < 512 → N 21 0 j = C 1 0 j) ∧ (∀ j, j < 64 → N 22 0 j = C 2 0 j) ∧ ∀ j, j < 300 → N 38 0 j = C 3 0 j
def qR (B : qB) (C N : fj_N) : Prop := qS B C N ∧ qA C N ∧ (∀ i, i < 12 → qT C N i) ∧ ∀ c, c < 6 → qC C N c
/-- what a task waits for is there -/
def qh_room (C : fj_N) (c : Int32) : Prop := ¬ c < 0 ∧ ¬ 6 ≤ c ∧ ¬ C 10 c.toNatClampNeg 2 ≤ C 10 c.toNatClampNeg 1
def qh_ints (C : fj_N) (c : Int32) : Prop := ¬ c < 0 ∧ ¬ 6 ≤ c ∧ ¬ C 10 c.toNatClampNeg 1 ≤ 0
def qh_live (C : fj_N) (i : Nat) : Prop := ¬ C 7 i 2 < 1 ∧ ¬ 6 < C 7 i 2
def qh_alive (C : fj_N) (x : Int32) : Prop := ¬ x < 0 ∧ ¬ 12 ≤ x ∧ qh_live C x.toNatClampNeg
def qh_there (C : fj_N) (i : Nat) : Prop := (C 7 i 2 = 2 ∧ qh_room C (C 7 i 10)) ∨ (C 7 i 2 = 3 ∧ qh_ints C (C 7 i 10)) ∨ (C 7 i 2 = 4 ∧ (qh_ints C (C 7 i 10) ∨ qh_ints C (C 7 i 11))) ∨ (C 7 i 2 = 6 ∧ ¬ qh_alive C (C 7 i 10))
def qW (C : fj_N) : Prop := ∀ i, i < 12 → ¬ qh_there C i
theorem qT_cg {C N C' N' : fj_N} {i : Nat} (h : qT C N i) (h7 : ∀ j, C' 7 i j = C 7 i j) (h8 : ∀ j, j < 24 → C' 8 i j = C 8 i j) (h9 : ∀ j, j < 12 → C' 9 i j = C 9 i j) (n1 : ∀ κ, 23 ≤ κ → κ ≤ 34 → κ ≠ 26 → κ ≠ 28 → N' κ 0 i = N κ 0 i) (n2 : ∀ j, j < 24 → N' 26 0 (24 * i + j) = N 26 0 (24 * i + j)) (n3 : ∀ j, j < 12 → N' 28 0 (12 * i + j) = N 28 0 (12 * i + j)) : qT C' N' i := by
  obtain ⟨a, b, ⟨d, d1, d2, d3⟩, ⟨r, r1, r2, r3⟩, e, f, g⟩ := h
  unfold qT
  simp only [h7, n1 23 (by omega) (by omega) (by omega) (by omega), n1 24 (by omega) (by omega) (by omega) (by omega), n1 25 (by omega) (by omega) (by omega) (by omega), n1 27 (by omega) (by omega) (by omega) (by omega), n1 29 (by omega) (by omega) (by omega) (by omega), n1 30 (by omega) (by omega) (by omega) (by omega), n1 31 (by omega) (by omega) (by omega) (by omega), n1 32 (by omega) (by omega) (by omega) (by omega), n1 33 (by omega) (by omega) (by omega) (by omega), n1 34 (by omega) (by omega) (by omega) (by omega)]
  exact ⟨a, b, ⟨d, d1, d2, fun j hj => by rw [n2 j (by omega), h8 j (by omega)]; exact d3 j hj⟩, ⟨r, r1, r2, fun j hj => by rw [n3 j (by omega), h9 j (by omega)]; exact r3 j hj⟩, e, f, g⟩
theorem qC_cg {C N C' N' : fj_N} {c : Nat} (h : qC C N c) (h1 : ∀ j, C' 10 c j = C 10 c j) (h2 : ∀ j, j < 8 → C' 11 c j = C 11 c j) (n1 : N' 35 0 c = N 35 0 c) (n2 : N' 36 0 c = N 36 0 c) (n3 : ∀ j, j < 8 → N' 37 0 (8 * c + j) = N 37 0 (8 * c + j)) : qC C' N' c := by
  obtain ⟨a, b, n, z, z1, z2, z3, z4, z5, z6⟩ := h
  unfold qC
  simp only [h1, n1, n2]
  exact ⟨a, b, n, z, z1, z2, z3, z4, z5, fun j hj => by rw [n3 j (by omega), h2 j (by omega)]; exact z6 j hj⟩
/-! small guards -/
theorem qg_out {a : Int32} {n : Nat} (hn : n ≤ 1000000) (h0 : 0 < n) (h : a < 0 ∨ (¬ a < 0 ∧ nI n ≤ a)) : a < 0 ∨ nI (n - 1) < a := by
  rcases h with h | ⟨-, h⟩
  · exact Or.inl h
  · exact Or.inr ((qx_pred hn h0).mpr h)
section QG
variable {M : fj_M} {a : Int32} {j : Nat}
theorem qg35_i (h : j < 512) : dm_35 (nI j) M = some (1, M) := by
  unfold dm_35
  rw [if_neg (qx_neg (by omega)), if_neg (fun q => by have := (qx_le (a := 512) (b := j) (by omega) (by omega)).mp q; omega)]
theorem qg35_o (h : a < 0 ∨ (¬ a < 0 ∧ nI 512 ≤ a)) : dm_35 a M = some (0, M) := by
  unfold dm_35
  rcases h with h | ⟨h1, h2⟩
  · rw [if_pos h]
  · rw [if_neg h1, if_pos (show (512 : Int32) ≤ a from h2)]
theorem qg36_i (h : j < 64) : dm_36 (nI j) M = some (1, M) := by
  unfold dm_36
  rw [if_neg (qx_neg (by omega)), if_neg (fun q => by have := (qx_le (a := 64) (b := j) (by omega) (by omega)).mp q; omega)]
theorem qg36_o (h : a < 0 ∨ (¬ a < 0 ∧ nI 64 ≤ a)) : dm_36 a M = some (0, M) := by
  unfold dm_36
  rcases h with h | ⟨h1, h2⟩
  · rw [if_pos h]
  · rw [if_neg h1, if_pos (show (64 : Int32) ≤ a from h2)]
theorem qg37_i (h : j < 12) : dm_37 (nI j) M = some (1, M) := by
  unfold dm_37
  rw [if_neg (qx_neg (by omega)), if_neg (fun q => by have := (qx_le (a := 12) (b := j) (by omega) (by omega)).mp q; omega)]
theorem qg37_o (h : a < 0 ∨ (¬ a < 0 ∧ nI 12 ≤ a)) : dm_37 a M = some (0, M) := by
  unfold dm_37
  rcases h with h | ⟨h1, h2⟩
  · rw [if_pos h]
  · rw [if_neg h1, if_pos (show (12 : Int32) ≤ a from h2)]
theorem qg38_i (h : j < 6) : dm_38 (nI j) M = some (1, M) := by
  unfold dm_38
  rw [if_neg (qx_neg (by omega)), if_neg (fun q => by have := (qx_le (a := 6) (b := j) (by omega) (by omega)).mp q; omega)]
theorem qg38_o (h : a < 0 ∨ (¬ a < 0 ∧ nI 6 ≤ a)) : dm_38 a M = some (0, M) := by
  unfold dm_38
  rcases h with h | ⟨h1, h2⟩
  · rw [if_pos h]
  · rw [if_neg h1, if_pos (show (6 : Int32) ≤ a from h2)]
theorem qg78_0_511_i (h : 0 ≤ j) (h2 : j ≤ 511) : dm_78 (nI j) 0 511 M = some (1, M) := by
  unfold dm_78
  rw [if_neg (fun q => by have := (qx_lt (a := j) (b := 0) (by omega) (by omega)).mp q; omega), if_neg (fun q => by have := (qx_lt (a := 511) (b := j) (by omega) (by omega)).mp q; omega)]
theorem qg78_0_511_o (h : a < 0 ∨ (¬ a < 0 ∧ nI 512 ≤ a)) : dm_78 a 0 511 M = some (0, M) := by
  unfold dm_78
  rcases qg_out (n := 512) (by omega) (by omega) h with h1 | h1
  · rw [if_pos h1]
  · by_cases h2 : a < 0
    · rw [if_pos h2]
    · rw [if_neg h2, if_pos (show (511 : Int32) < a from h1)]
theorem qg78_0_255_i (h : 0 ≤ j) (h2 : j ≤ 255) : dm_78 (nI j) 0 255 M = some (1, M) := by
  unfold dm_78
  rw [if_neg (fun q => by have := (qx_lt (a := j) (b := 0) (by omega) (by omega)).mp q; omega), if_neg (fun q => by have := (qx_lt (a := 255) (b := j) (by omega) (by omega)).mp q; omega)]
theorem qg78_0_255_o (h : a < 0 ∨ (¬ a < 0 ∧ nI 256 ≤ a)) : dm_78 a 0 255 M = some (0, M) := by
  unfold dm_78
  rcases qg_out (n := 256) (by omega) (by omega) h with h1 | h1
  · rw [if_pos h1]
  · by_cases h2 : a < 0
    · rw [if_pos h2]
    · rw [if_neg h2, if_pos (show (255 : Int32) < a from h1)]
theorem qg78_1_50_i (h : 1 ≤ j) (h2 : j ≤ 50) : dm_78 (nI j) 1 50 M = some (1, M) := by
  unfold dm_78
  rw [if_neg (fun q => by have := (qx_lt (a := j) (b := 1) (by omega) (by omega)).mp q; omega), if_neg (fun q => by have := (qx_lt (a := 50) (b := j) (by omega) (by omega)).mp q; omega)]
theorem qg78_1_50_o (h : a < 1 ∨ 50 < a) : dm_78 a 1 50 M = some (0, M) := by
  unfold dm_78
  by_cases h2 : a < 1
  · rw [if_pos h2]
  · rw [if_neg h2, if_pos (h.resolve_left h2)]
theorem qg78_0_5_i (h : 0 ≤ j) (h2 : j ≤ 5) : dm_78 (nI j) 0 5 M = some (1, M) := by
  unfold dm_78
  rw [if_neg (fun q => by have := (qx_lt (a := j) (b := 0) (by omega) (by omega)).mp q; omega), if_neg (fun q => by have := (qx_lt (a := 5) (b := j) (by omega) (by omega)).mp q; omega)]
theorem qg78_0_5_o (h : a < 0 ∨ (¬ a < 0 ∧ nI 6 ≤ a)) : dm_78 a 0 5 M = some (0, M) := by
  unfold dm_78
  rcases qg_out (n := 6) (by omega) (by omega) h with h1 | h1
  · rw [if_pos h1]
  · by_cases h2 : a < 0
    · rw [if_pos h2]
    · rw [if_neg h2, if_pos (show (5 : Int32) < a from h1)]
theorem qg78_1_8_i (h : 1 ≤ j) (h2 : j ≤ 8) : dm_78 (nI j) 1 8 M = some (1, M) := by
  unfold dm_78
  rw [if_neg (fun q => by have := (qx_lt (a := j) (b := 1) (by omega) (by omega)).mp q; omega), if_neg (fun q => by have := (qx_lt (a := 8) (b := j) (by omega) (by omega)).mp q; omega)]
theorem qg78_1_8_o (h : a < 1 ∨ 8 < a) : dm_78 a 1 8 M = some (0, M) := by
  unfold dm_78
  by_cases h2 : a < 1
  · rw [if_pos h2]
  · rw [if_neg h2, if_pos (h.resolve_left h2)]
theorem qg78_0_11_i (h : 0 ≤ j) (h2 : j ≤ 11) : dm_78 (nI j) 0 11 M = some (1, M) := by
  unfold dm_78
  rw [if_neg (fun q => by have := (qx_lt (a := j) (b := 0) (by omega) (by omega)).mp q; omega), if_neg (fun q => by have := (qx_lt (a := 11) (b := j) (by omega) (by omega)).mp q; omega)]
theorem qg78_0_11_o (h : a < 0 ∨ (¬ a < 0 ∧ nI 12 ≤ a)) : dm_78 a 0 11 M = some (0, M) := by
  unfold dm_78
  rcases qg_out (n := 12) (by omega) (by omega) h with h1 | h1
  · rw [if_pos h1]
  · by_cases h2 : a < 0
    · rw [if_pos h2]
    · rw [if_neg h2, if_pos (show (11 : Int32) < a from h1)]
theorem qg78_0_63_i (h : 0 ≤ j) (h2 : j ≤ 63) : dm_78 (nI j) 0 63 M = some (1, M) := by
  unfold dm_78
  rw [if_neg (fun q => by have := (qx_lt (a := j) (b := 0) (by omega) (by omega)).mp q; omega), if_neg (fun q => by have := (qx_lt (a := 63) (b := j) (by omega) (by omega)).mp q; omega)]
theorem qg78_0_63_o (h : a < 0 ∨ (¬ a < 0 ∧ nI 64 ≤ a)) : dm_78 a 0 63 M = some (0, M) := by
  unfold dm_78
  rcases qg_out (n := 64) (by omega) (by omega) h with h1 | h1
  · rw [if_pos h1]
  · by_cases h2 : a < 0
    · rw [if_pos h2]
    · rw [if_neg h2, if_pos (show (63 : Int32) < a from h1)]
theorem qg78_0_299_i (h : 0 ≤ j) (h2 : j ≤ 299) : dm_78 (nI j) 0 299 M = some (1, M) := by
  unfold dm_78
  rw [if_neg (fun q => by have := (qx_lt (a := j) (b := 0) (by omega) (by omega)).mp q; omega), if_neg (fun q => by have := (qx_lt (a := 299) (b := j) (by omega) (by omega)).mp q; omega)]
theorem qg78_0_299_o (h : a < 0 ∨ (¬ a < 0 ∧ nI 300 ≤ a)) : dm_78 a 0 299 M = some (0, M) := by
  unfold dm_78
  rcases qg_out (n := 300) (by omega) (by omega) h with h1 | h1
  · rw [if_pos h1]
  · by_cases h2 : a < 0
    · rw [if_pos h2]
    · rw [if_neg h2, if_pos (show (299 : Int32) < a from h1)]
theorem qg78_0_5000_i (h : 0 ≤ j) (h2 : j ≤ 5000) : dm_78 (nI j) 0 5000 M = some (1, M) := by
  unfold dm_78
  rw [if_neg (fun q => by have := (qx_lt (a := j) (b := 0) (by omega) (by omega)).mp q; omega), if_neg (fun q => by have := (qx_lt (a := 5000) (b := j) (by omega) (by omega)).mp q; omega)]
theorem qg78_0_5000_o (h : a < 0 ∨ (¬ a < 0 ∧ nI 5001 ≤ a)) : dm_78 a 0 5000 M = some (0, M) := by
  unfold dm_78
  rcases qg_out (n := 5001) (by omega) (by omega) h with h1 | h1
  · rw [if_pos h1]
  · by_cases h2 : a < 0
    · rw [if_pos h2]
    · rw [if_neg h2, if_pos (show (5000 : Int32) < a from h1)]
theorem qg87_i (h : j < 6) : dm_87 (nI j) M = some (1, M) := by
  unfold dm_87
  rw [qg78_0_5_i (by omega) (by omega)]
  rfl
theorem qg87_o (h : a < 0 ∨ (¬ a < 0 ∧ nI 6 ≤ a)) : dm_87 a M = some (0, M) := by
  unfold dm_87
  rw [qg78_0_5_o h]
  rfl
theorem qg114_i (h : j < 12) : dm_114 (nI j) M = some (1, M) := by
  unfold dm_114
  rw [qg78_0_11_i (by omega) (by omega)]
  rfl
theorem qg114_o (h : a < 0 ∨ (¬ a < 0 ∧ nI 12 ≤ a)) : dm_114 a M = some (0, M) := by
  unfold dm_114
  rw [qg78_0_11_o h]
  rfl
end QG
