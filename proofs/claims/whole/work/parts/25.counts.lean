/-! STACKS AND CHANNELS ASKED; COUNTS -/
theorem qx_out12 {k : Nat} (hk : k < 12) : ¬ (12 : Int32) ≤ nI k := fun q => by
  have := (qx_le (a := 12) (b := k) (by omega) (by omega)).mp q
  omega
theorem qp_stack (B : qB) (a b : Int32) : qP B B (dm_29 a b) (dm_117 a b) := by
  refine qP_same (fun C N hR => ?_)
  rcases qx_ix a (n := 12) (by decide) with h | h | ⟨i, hi, rfl⟩
  · exact ⟨0, by simp only [dm_29, qg37_o (Or.inl h), Option.bind_some, ↓reduceIte, qz1], by simp only [dm_117, qg114_o (Or.inl h), Option.bind_some, ↓reduceIte, qz1]⟩
  · exact ⟨0, by simp only [dm_29, qg37_o (Or.inr h), Option.bind_some, ↓reduceIte, qz1], by simp only [dm_117, qg114_o (Or.inr h), Option.bind_some, ↓reduceIte, qz1]⟩
  · obtain ⟨a1, a2, ⟨d, d1, d2, d3⟩, -⟩ := hR.2.2.1 i hi
    have e : N 25 0 i = nI d := a1.2.2.1.trans d2
    by_cases h0 : b < 0
    · refine ⟨0, by simp only [dm_29, qg37_i hi, Option.bind_some, ↓reduceIte, qz1, if_pos h0], ?_⟩
      simp only [dm_117, qg114_i hi, Option.bind_some, ↓reduceIte, qz1, qx_cl (j := i) (show i ≤ 1000000 by omega), qx_neg (n := i) (show i ≤ 100000000 by omega), Nat.not_le.mpr hi, or_self, e, dm_78, if_pos h0]
    by_cases h1 : nI d ≤ b
    · refine ⟨0, by simp only [dm_29, qg37_i hi, Option.bind_some, ↓reduceIte, qz1, if_neg h0, qx_cl (j := i) (show i ≤ 1000000 by omega), qx_neg (n := i) (show i ≤ 100000000 by omega), Nat.not_le.mpr hi, or_self, d2, if_pos h1], ?_⟩
      simp only [dm_117, qg114_i hi, Option.bind_some, ↓reduceIte, qz1, qx_cl (j := i) (show i ≤ 1000000 by omega), qx_neg (n := i) (show i ≤ 100000000 by omega), Nat.not_le.mpr hi, or_self, e, dm_78, if_neg h0, if_pos ((qx_hi (by omega) h0).mpr h1)]
    · obtain ⟨k, hk, rfl⟩ := qx_mid (x := b) (n := d) (by omega) h0 h1
      have hk24 : k < 24 := by omega
      have hw : 24 * i + k < 288 := by omega
      have e3 := d3 k hk
      refine ⟨C 8 i k, ?_, ?_⟩
      · simp only [dm_29, qg37_i hi, Option.bind_some, ↓reduceIte, qz1, qx_cl (j := i) (show i ≤ 1000000 by omega), qx_neg (n := i) (show i ≤ 100000000 by omega), Nat.not_le.mpr hi, or_self, d2, if_neg h1, qx_cl (j := k) (show k ≤ 1000000 by omega), qx_neg (n := k) (show k ≤ 100000000 by omega), Nat.not_le.mpr hk24, or_self]
      · simp only [dm_117, qg114_i hi, Option.bind_some, ↓reduceIte, qz1, qx_cl (j := i) (show i ≤ 1000000 by omega), qx_neg (n := i) (show i ≤ 100000000 by omega), Nat.not_le.mpr hi, or_self, e, dm_78, if_neg h0, if_neg (fun q => h1 ((qx_hi (by omega) h0).mp q)), qx_24, qx_add]
        generalize 24 * i + k = w at *
        simp only [qx_cl (j := w) (show w ≤ 1000000 by omega), qx_neg (n := w) (show w ≤ 100000000 by omega), Nat.not_le.mpr hw, or_self, ↓reduceIte, e3]
theorem qp_channel (B : qB) (a b : Int32) : qP B B (dm_31 a b) (dm_119 a b) := by
  refine qP_same (fun C N hR => ?_)
  rcases qx_ix a (n := 6) (by decide) with h | h | ⟨i, hi, rfl⟩
  · exact ⟨0, by simp only [dm_31, qg38_o (Or.inl h), Option.bind_some, ↓reduceIte, qz1], by simp only [dm_119, qg87_o (Or.inl h), Option.bind_some, ↓reduceIte, qz1]⟩
  · exact ⟨0, by simp only [dm_31, qg38_o (Or.inr h), Option.bind_some, ↓reduceIte, qz1], by simp only [dm_119, qg87_o (Or.inr h), Option.bind_some, ↓reduceIte, qz1]⟩
  · obtain ⟨a1, a2, d, z, g1, g2, g3, d2, g5, d3⟩ := hR.2.2.2 i hi
    have e : N 36 0 i = nI d := a1.trans d2
    by_cases h0 : b < 0
    · refine ⟨0, by simp only [dm_31, qg38_i hi, Option.bind_some, ↓reduceIte, qz1, if_pos h0], ?_⟩
      simp only [dm_119, qg87_i hi, Option.bind_some, ↓reduceIte, qz1, qx_cl (j := i) (show i ≤ 1000000 by omega), qx_neg (n := i) (show i ≤ 100000000 by omega), Nat.not_le.mpr hi, or_self, e, dm_78, if_pos h0]
    by_cases h1 : nI d ≤ b
    · refine ⟨0, by simp only [dm_31, qg38_i hi, Option.bind_some, ↓reduceIte, qz1, if_neg h0, qx_cl (j := i) (show i ≤ 1000000 by omega), qx_neg (n := i) (show i ≤ 100000000 by omega), Nat.not_le.mpr hi, or_self, d2, if_pos h1], ?_⟩
      simp only [dm_119, qg87_i hi, Option.bind_some, ↓reduceIte, qz1, qx_cl (j := i) (show i ≤ 1000000 by omega), qx_neg (n := i) (show i ≤ 100000000 by omega), Nat.not_le.mpr hi, or_self, e, dm_78, if_neg h0, if_pos ((qx_hi (by omega) h0).mpr h1)]
    · obtain ⟨k, hk, rfl⟩ := qx_mid (x := b) (n := d) (by omega) h0 h1
      have hk8 : k < 8 := by omega
      have hw : 8 * i + k < 48 := by omega
      have e3 := d3 k hk
      refine ⟨C 11 i k, ?_, ?_⟩
      · simp only [dm_31, qg38_i hi, Option.bind_some, ↓reduceIte, qz1, qx_cl (j := i) (show i ≤ 1000000 by omega), qx_neg (n := i) (show i ≤ 100000000 by omega), Nat.not_le.mpr hi, or_self, d2, if_neg h1, qx_cl (j := k) (show k ≤ 1000000 by omega), qx_neg (n := k) (show k ≤ 100000000 by omega), Nat.not_le.mpr hk8, or_self]
      · simp only [dm_119, qg87_i hi, Option.bind_some, ↓reduceIte, qz1, qx_cl (j := i) (show i ≤ 1000000 by omega), qx_neg (n := i) (show i ≤ 100000000 by omega), Nat.not_le.mpr hi, or_self, e, dm_78, if_neg h0, if_neg (fun q => h1 ((qx_hi (by omega) h0).mp q)), qx_8, qx_add]
        generalize 8 * i + k = w at *
        simp only [qx_cl (j := w) (show w ≤ 1000000 by omega), qx_neg (n := w) (show w ≤ 100000000 by omega), Nat.not_le.mpr hw, or_self, ↓reduceIte, e3]
/-- how many of the first k are live, are in a state -/
noncomputable def qcl (C : fj_N) : Nat → Int32
  | 0 => 0
  | k + 1 => qcl C k + @ite _ (qh_live C k) (Classical.propDecidable _) 1 0
def qci (C : fj_N) (s : Int32) : Nat → Int32
  | 0 => 0
  | k + 1 => qci C s k + if C 7 k 2 = s then 1 else 0
theorem qcl_1 {C : fj_N} {k : Nat} (h : qh_live C k) : qcl C (k + 1) = qcl C k + 1 := by
  show qcl C k + _ = _
  rw [if_pos h]
theorem qcl_0 {C : fj_N} {k : Nat} (h : ¬ qh_live C k) : qcl C (k + 1) = qcl C k + 0 := by
  show qcl C k + _ = _
  rw [if_neg h]
theorem qci_1 {C : fj_N} {s : Int32} {k : Nat} (h : C 7 k 2 = s) : qci C s (k + 1) = qci C s k + 1 := by
  show qci C s k + _ = _
  rw [if_pos h]
theorem qci_0 {C : fj_N} {s : Int32} {k : Nat} (h : ¬ C 7 k 2 = s) : qci C s (k + 1) = qci C s k + 0 := by
  show qci C s k + _ = _
  rw [if_neg h]
theorem qk_cl_loop {C N : fj_N} : ∀ (m k fuel : Nat), k + m = 12 → m < fuel → dm_42_4 fuel (qcl C k) (nI k) (C, N) = some (qcl C 12, (C, N)) := by
  intro m
  induction m with
  | zero =>
    intro k fuel hk hf
    obtain ⟨f, rfl⟩ : ∃ f, fuel = f + 1 := ⟨fuel - 1, by omega⟩
    have hk : k = 12 := by omega
    subst hk
    unfold dm_42_4
    rw [if_pos (show (12 : Int32) ≤ nI 12 from by decide)]
  | succ m ih =>
    intro k fuel hk hf
    obtain ⟨f, rfl⟩ : ∃ f, fuel = f + 1 := ⟨fuel - 1, by omega⟩
    have hk2 : k < 12 := by omega
    by_cases h : qh_live C k
    · simp only [dm_42_4, if_neg (qx_out12 hk2), qx_cl (j := k) (show k ≤ 1000000 by omega), qx_neg (n := k) (show k ≤ 100000000 by omega), Nat.not_le.mpr hk2, or_self, ↓reduceIte, qk_live1 (M := (C, N)) h, Option.bind_some, qz1, dm_42_28, nI_1]
      rw [← qcl_1 h]
      exact ih (k + 1) f (by omega) (by omega)
    · simp only [dm_42_4, if_neg (qx_out12 hk2), qx_cl (j := k) (show k ≤ 1000000 by omega), qx_neg (n := k) (show k ≤ 100000000 by omega), Nat.not_le.mpr hk2, or_self, ↓reduceIte, qk_live0 (M := (C, N)) h, Option.bind_some, dm_42_28, nI_1]
      rw [← qcl_0 h]
      exact ih (k + 1) f (by omega) (by omega)
theorem qk_cl (C N : fj_N) : dm_42 (C, N) = some (qcl C 12, (C, N)) := qk_cl_loop 12 0 40 (by omega) (by omega)
theorem qk_ci_loop {C N : fj_N} {s : Int32} : ∀ (m k fuel : Nat), k + m = 12 → m < fuel → dm_43_4 fuel s (qci C s k) (nI k) (C, N) = some (qci C s 12, (C, N)) := by
  intro m
  induction m with
  | zero =>
    intro k fuel hk hf
    obtain ⟨f, rfl⟩ : ∃ f, fuel = f + 1 := ⟨fuel - 1, by omega⟩
    have hk : k = 12 := by omega
    subst hk
    unfold dm_43_4
    rw [if_pos (show (12 : Int32) ≤ nI 12 from by decide)]
  | succ m ih =>
    intro k fuel hk hf
    obtain ⟨f, rfl⟩ : ∃ f, fuel = f + 1 := ⟨fuel - 1, by omega⟩
    have hk2 : k < 12 := by omega
    by_cases h : C 7 k 2 = s
    · simp only [dm_43_4, if_neg (qx_out12 hk2), qx_cl (j := k) (show k ≤ 1000000 by omega), qx_neg (n := k) (show k ≤ 100000000 by omega), Nat.not_le.mpr hk2, or_self, ↓reduceIte, if_pos h, dm_43_29, nI_1]
      rw [← qci_1 h]
      exact ih (k + 1) f (by omega) (by omega)
    · simp only [dm_43_4, if_neg (qx_out12 hk2), qx_cl (j := k) (show k ≤ 1000000 by omega), qx_neg (n := k) (show k ≤ 100000000 by omega), Nat.not_le.mpr hk2, or_self, ↓reduceIte, if_neg h, dm_43_29, nI_1]
      rw [← qci_0 h]
      exact ih (k + 1) f (by omega) (by omega)
theorem qk_ci (C N : fj_N) (s : Int32) : dm_43 s (C, N) = some (qci C s 12, (C, N)) := qk_ci_loop 12 0 40 (by omega) (by omega)
theorem qn_told_loop {B : qB} {C C0 N : fj_N} {w : Int32} (hT : ∀ i, i < 12 → qT C N i) : ∀ (m k fuel : Nat), k + m = 12 → m < fuel → dm_122_7 fuel w (qcl C k) (qci C 1 k) (nI k) (C0, N) = dm_122_7 1 w (qcl C 12) (qci C 1 12) (nI 12) (C0, N) := by
  intro m
  induction m with
  | zero =>
    intro k fuel hk hf
    obtain ⟨f, rfl⟩ : ∃ f, fuel = f + 1 := ⟨fuel - 1, by omega⟩
    have hk : k = 12 := by omega
    subst hk
    unfold dm_122_7
    rw [if_pos (show (12 : Int32) ≤ nI 12 from by decide), if_pos (show (12 : Int32) ≤ nI 12 from by decide)]
  | succ m ih =>
    intro k fuel hk hf
    obtain ⟨f, rfl⟩ : ∃ f, fuel = f + 1 := ⟨fuel - 1, by omega⟩
    have hk2 : k < 12 := by omega
    have es : N 23 0 k = C 7 k 2 := (hT k hk2).1.1
    have el : (¬ N 23 0 k < 1 ∧ ¬ 6 < N 23 0 k) ↔ qh_live C k := by rw [es]; exact Iff.rfl
    rw [← ih (k + 1) f (by omega) (by omega)]
    by_cases h : qh_live C k
    · by_cases h2 : C 7 k 2 = 1
      · rw [qcl_1 h, qci_1 h2]
        conv => lhs; unfold dm_122_7
        simp only [if_neg (qx_out12 hk2), qn_live1 (C := C0) hk2 (el.mpr h), Option.bind_some, ↓reduceIte, qz1, dm_122_29, dm_122_48, qx_cl (j := k) (show k ≤ 1000000 by omega), qx_neg (n := k) (show k ≤ 100000000 by omega), Nat.not_le.mpr hk2, or_self, es, if_pos h2, nI_1]
      · rw [qcl_1 h, qci_0 h2]
        conv => lhs; unfold dm_122_7
        simp only [if_neg (qx_out12 hk2), qn_live1 (C := C0) hk2 (el.mpr h), Option.bind_some, ↓reduceIte, qz1, dm_122_29, dm_122_48, qx_cl (j := k) (show k ≤ 1000000 by omega), qx_neg (n := k) (show k ≤ 100000000 by omega), Nat.not_le.mpr hk2, or_self, es, if_neg h2, nI_1]
    · by_cases h2 : C 7 k 2 = 1
      · rw [qcl_0 h, qci_1 h2]
        conv => lhs; unfold dm_122_7
        simp only [if_neg (qx_out12 hk2), qn_live0 (C := C0) hk2 (fun q => h (el.mp q)), Option.bind_some, ↓reduceIte, dm_122_29, dm_122_48, qx_cl (j := k) (show k ≤ 1000000 by omega), qx_neg (n := k) (show k ≤ 100000000 by omega), Nat.not_le.mpr hk2, or_self, es, if_pos h2, nI_1]
      · rw [qcl_0 h, qci_0 h2]
        conv => lhs; unfold dm_122_7
        simp only [if_neg (qx_out12 hk2), qn_live0 (C := C0) hk2 (fun q => h (el.mp q)), Option.bind_some, ↓reduceIte, dm_122_29, dm_122_48, qx_cl (j := k) (show k ≤ 1000000 by omega), qx_neg (n := k) (show k ≤ 100000000 by omega), Nat.not_le.mpr hk2, or_self, es, if_neg h2, nI_1]
theorem qp_told (B : qB) (w : Int32) : qP B B (dm_34 w) (dm_122 w) := by
  refine qP_same (fun C N hR => ?_)
  obtain ⟨⟨s1, s2, s3, s4, s5, s6, s7, s8⟩, -⟩ := hR.1
  have e : dm_122 w (C, N) = dm_122_7 1 w (qcl C 12) (qci C 1 12) (nI 12) (C, N) := qn_told_loop (B := B) hR.2.2.1 12 0 40 (by omega) (by omega)
  rw [e]
  unfold dm_122_7
  rw [if_pos (show (12 : Int32) ≤ nI 12 from by decide)]
  unfold dm_34
  simp only [qk_cl, qk_ci, Option.bind_some, s1, s2, s3, s4, s7, s8]
  by_cases b0 : w = 0
  · exact ⟨_, if_pos b0, by rw [if_pos b0]⟩
  by_cases b1 : w = 1
  · exact ⟨C 0 0 8, by rw [if_neg b0, if_pos b1], by rw [if_neg b0, if_pos b1]⟩
  by_cases b2 : w = 2
  · exact ⟨C 0 0 9, by rw [if_neg b0, if_neg b1, if_pos b2], by rw [if_neg b0, if_neg b1, if_pos b2]⟩
  by_cases b3 : w = 3
  · exact ⟨C 0 0 11, by rw [if_neg b0, if_neg b1, if_neg b2, if_pos b3], by rw [if_neg b0, if_neg b1, if_neg b2, if_pos b3]⟩
  by_cases b4 : w = 4
  · exact ⟨qcl C 12, by rw [if_neg b0, if_neg b1, if_neg b2, if_neg b3, if_pos b4], by rw [if_neg b0, if_neg b1, if_neg b2, if_neg b3, if_pos b4]⟩
  by_cases b5 : w = 5
  · exact ⟨qci C 1 12, by rw [if_neg b0, if_neg b1, if_neg b2, if_neg b3, if_neg b4, if_pos b5], by rw [if_neg b0, if_neg b1, if_neg b2, if_neg b3, if_neg b4, if_pos b5]⟩
  by_cases b6 : w = 6
  · exact ⟨C 0 0 12, by rw [if_neg b0, if_neg b1, if_neg b2, if_neg b3, if_neg b4, if_neg b5, if_pos b6], by rw [if_neg b0, if_neg b1, if_neg b2, if_neg b3, if_neg b4, if_neg b5, if_pos b6]⟩
  by_cases b7 : w = 7
  · exact ⟨C 0 0 13, by rw [if_neg b0, if_neg b1, if_neg b2, if_neg b3, if_neg b4, if_neg b5, if_neg b6, if_pos b7], by rw [if_neg b0, if_neg b1, if_neg b2, if_neg b3, if_neg b4, if_neg b5, if_neg b6, if_pos b7]⟩
  · exact ⟨-2, by rw [if_neg b0, if_neg b1, if_neg b2, if_neg b3, if_neg b4, if_neg b5, if_neg b6, if_neg b7], by rw [if_neg b0, if_neg b1, if_neg b2, if_neg b3, if_neg b4, if_neg b5, if_neg b6, if_neg b7]⟩
