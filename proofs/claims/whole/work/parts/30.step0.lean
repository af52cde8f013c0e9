/-! THE REFERENCE'S LOOP OVER SLEEPERS; WHO IS LIVE, WHO SLEEPS -/
noncomputable def qfl (C : fj_N) (k : Nat) : Int32 := @ite _ (∃ j, j < k ∧ qh_live C j) (Classical.propDecidable _) 1 0
noncomputable def qfs (C : fj_N) (k : Nat) : Int32 := @ite _ (∃ j, j < k ∧ qsl C 12 7 j 2 = 5) (Classical.propDecidable _) 1 0
theorem qfl_1 {C : fj_N} {k : Nat} (h : ∃ j, j < k ∧ qh_live C j) : qfl C k = 1 := if_pos h
theorem qfl_0 {C : fj_N} {k : Nat} (h : ¬ ∃ j, j < k ∧ qh_live C j) : qfl C k = 0 := if_neg h
theorem qfs_1 {C : fj_N} {k : Nat} (h : ∃ j, j < k ∧ qsl C 12 7 j 2 = 5) : qfs C k = 1 := if_pos h
theorem qfs_0 {C : fj_N} {k : Nat} (h : ¬ ∃ j, j < k ∧ qsl C 12 7 j 2 = 5) : qfs C k = 0 := if_neg h
theorem qx_more {P : Nat → Prop} {k : Nat} (h : ∃ j, j < k ∧ P j) : ∃ j, j < k + 1 ∧ P j := by
  obtain ⟨j, h1, h2⟩ := h
  exact ⟨j, by omega, h2⟩
theorem qx_nomore {P : Nat → Prop} {k : Nat} (h : ¬ ∃ j, j < k ∧ P j) (hk : ¬ P k) : ¬ ∃ j, j < k + 1 ∧ P j := by
  rintro ⟨j, h1, h2⟩
  rcases Nat.lt_or_ge j k with q | q
  · exact h ⟨j, q, h2⟩
  · have e : j = k := by omega
    rw [e] at h2
    exact hk h2
theorem qn_sl66 {C C0 N' : fj_N} {k : Nat} (hk : k < 12) (hs : N' 23 0 k = qsl C 12 7 k 2) (rec6 : Int32 → Int32 → Int32 → fj_M → Option (Int32 × fj_M)) (a1 s0 : Int32) : dm_97_66 rec6 a1 (qfs C k) (nI k) s0 (C0, N') = rec6 s0 (qfs C (k + 1)) (nI (k + 1)) (C0, N') := by
  by_cases h : ∃ j, j < k ∧ qsl C 12 7 j 2 = 5
  · rw [qfs_1 h, qfs_1 (qx_more h)]
    simp only [dm_97_66, qz1, dm_97_81, dm_97_86, nI_1]
  · rw [qfs_0 h]
    by_cases h5 : qsl C 12 7 k 2 = 5
    · rw [qfs_1 ⟨k, by omega, h5⟩]
      simp only [dm_97_66, ↓reduceIte, qx_cl (j := k) (show k ≤ 1000000 by omega), qx_neg (n := k) (show k ≤ 100000000 by omega), Nat.not_le.mpr hk, or_self, hs, h5, dm_97_81, dm_97_86, nI_1]
    · rw [qfs_0 (qx_nomore h h5)]
      simp only [dm_97_66, ↓reduceIte, qx_cl (j := k) (show k ≤ 1000000 by omega), qx_neg (n := k) (show k ≤ 100000000 by omega), Nat.not_le.mpr hk, or_self, hs, if_neg h5, dm_97_86, nI_1]
theorem qn_sl49 {C C0 N' : fj_N} {k : Nat} (hk : k < 12) (hs : N' 23 0 k = qsl C 12 7 k 2) (hl : (¬ N' 23 0 k < 1 ∧ ¬ 6 < N' 23 0 k) ↔ qh_live C k) (rec6 : Int32 → Int32 → Int32 → fj_M → Option (Int32 × fj_M)) : dm_97_49 rec6 (qfl C k) (qfs C k) (nI k) (C0, N') = rec6 (qfl C (k + 1)) (qfs C (k + 1)) (nI (k + 1)) (C0, N') := by
  by_cases h : ∃ j, j < k ∧ qh_live C j
  · rw [qfl_1 h, qfl_1 (qx_more h)]
    simp only [dm_97_49, qz1, dm_97_61, qn_sl66 hk hs]
  · rw [qfl_0 h]
    by_cases h5 : qh_live C k
    · rw [qfl_1 ⟨k, by omega, h5⟩]
      simp only [dm_97_49, ↓reduceIte, qn_live1 (C := C0) hk (hl.mpr h5), Option.bind_some, qz1, dm_97_61, qn_sl66 hk hs]
    · rw [qfl_0 (qx_nomore h h5)]
      simp only [dm_97_49, ↓reduceIte, qn_live0 (C := C0) hk (fun q => h5 (hl.mp q)), Option.bind_some, qn_sl66 hk hs]
theorem qn_sleep_step {B : qB} {C C0 N : fj_N} (hR : qR B C N) {k f : Nat} (hk : k < 12) : dm_97_6 (f + 1) (qfl C k) (qfs C k) (nI k) (C0, qsm C N k) = dm_97_6 f (qfl C (k + 1)) (qfs C (k + 1)) (nI (k + 1)) (C0, qsm C N (k + 1)) := by
  have ht := (hR.2.2.1 k hk).1
  have e23 : qsm C N k 23 0 k = C 7 k 2 := by rw [qsm_n (fun q => by omega)]; exact ht.1
  have e31 : qsm C N k 31 0 k = if C 7 k 2 = 5 then C 7 k 8 else 0 := by rw [qsm_n (fun q => by omega)]; exact ht.2.2.2.2.2.2.1
  have e19 : qsm C N k 20 0 19 = C 0 0 10 := by rw [qsm_n (fun q => by omega)]; exact hR.1.1.2.1
  have es : ∀ N', N' = qsm C N (k + 1) → N' 23 0 k = qsl C 12 7 k 2 := by
    intro N' e
    subst e
    by_cases w : qaw C k
    · rw [(qsm_p (by omega) w).1, qsl_p hk w]
    · rw [qsm_n (fun q => w q.2.2.1), qsl_n (fun q => w q.2.2.2)]
      exact ht.1
  have el : ∀ N', N' = qsm C N (k + 1) → ((¬ N' 23 0 k < 1 ∧ ¬ 6 < N' 23 0 k) ↔ qh_live C k) := by
    intro N' e
    rw [es N' e]
    exact qsl_live (k := 12) (i := k)
  by_cases h5 : C 7 k 2 = 5
  · have e31' : qsm C N k 31 0 k = C 7 k 8 := by rw [e31, if_pos h5]
    by_cases hh : C 0 0 10 < C 7 k 8
    · have e0 := qsm_s0 (N := N) (fun q : qaw C k => q.2 hh)
      simp only [dm_97_6, if_neg (qx_out12 hk), qx_cl (j := k) (show k ≤ 1000000 by omega), qx_neg (n := k) (show k ≤ 100000000 by omega), Nat.not_le.mpr hk, or_self, ↓reduceIte, e23, h5, e31', e19, if_pos hh]
      rw [qn_sl49 hk (es _ e0) (el _ e0), e0]
    · have e1 := qsm_s1 (N := N) (show qaw C k from ⟨h5, hh⟩)
      simp only [dm_97_6, if_neg (qx_out12 hk), qx_cl (j := k) (show k ≤ 1000000 by omega), qx_neg (n := k) (show k ≤ 100000000 by omega), Nat.not_le.mpr hk, or_self, ↓reduceIte, e23, h5, e31', e19, if_neg hh]
      rw [qn_sl49 hk (es _ e1) (el _ e1), e1]
  · have e0 := qsm_s0 (N := N) (fun q : qaw C k => h5 q.1)
    simp only [dm_97_6, if_neg (qx_out12 hk), qx_cl (j := k) (show k ≤ 1000000 by omega), qx_neg (n := k) (show k ≤ 100000000 by omega), Nat.not_le.mpr hk, or_self, ↓reduceIte, e23, if_neg h5]
    rw [qn_sl49 hk (es _ e0) (el _ e0), e0]
theorem qn_sleep_loop {B : qB} {C C0 N : fj_N} (hR : qR B C N) : ∀ (m k f : Nat), k + m = 12 → dm_97_6 (f + m) (qfl C k) (qfs C k) (nI k) (C0, qsm C N k) = dm_97_6 f (qfl C 12) (qfs C 12) (nI 12) (C0, qsm C N 12) := by
  intro m
  induction m with
  | zero =>
    intro k f hk
    have hk : k = 12 := by omega
    subst hk
    rfl
  | succ m ih =>
    intro k f hk
    rw [show f + (m + 1) = (f + m) + 1 by omega, qn_sleep_step hR (by omega)]
    exact ih (k + 1) f (by omega)
theorem qn_sleep {B : qB} {C C0 N : fj_N} (hR : qR B C N) : dm_97 (C0, N) = dm_97_6 28 (qfl C 12) (qfs C 12) (nI 12) (C0, qsm C N 12) := by
  have := qn_sleep_loop (C0 := C0) hR 12 0 28 (by omega)
  rw [qsm_0] at this
  have e1 : qfl C 0 = 0 := qfl_0 (fun ⟨j, h, _⟩ => Nat.not_lt_zero j h)
  have e2 : qfs C 0 = 0 := qfs_0 (fun ⟨j, h, _⟩ => Nat.not_lt_zero j h)
  rw [e1, e2] at this
  exact this
/-! counts as numbers -/
theorem qcl_n (C : fj_N) : ∀ k, ∃ n, n ≤ k ∧ qcl C k = nI n ∧ (n = 0 ↔ ¬ ∃ j, j < k ∧ qh_live C j)
  | 0 => ⟨0, Nat.le_refl 0, rfl, ⟨fun _ ⟨j, h, _⟩ => Nat.not_lt_zero j h, fun _ => rfl⟩⟩
  | k + 1 => by
    obtain ⟨n, h1, h2, h3⟩ := qcl_n C k
    by_cases h : qh_live C k
    · refine ⟨n + 1, by omega, by rw [qcl_1 h, h2, nI_1], ⟨fun q => by omega, fun q => absurd ⟨k, by omega, h⟩ q⟩⟩
    · refine ⟨n, by omega, by rw [qcl_0 h, h2]; exact Int32.add_zero _, ⟨fun q => qx_nomore (h3.mp q) h, fun q => h3.mpr (fun z => q (qx_more z))⟩⟩
theorem qci_n (C : fj_N) (s : Int32) : ∀ k, ∃ n, n ≤ k ∧ qci C s k = nI n ∧ (n = 0 ↔ ¬ ∃ j, j < k ∧ C 7 j 2 = s)
  | 0 => ⟨0, Nat.le_refl 0, rfl, ⟨fun _ ⟨j, h, _⟩ => Nat.not_lt_zero j h, fun _ => rfl⟩⟩
  | k + 1 => by
    obtain ⟨n, h1, h2, h3⟩ := qci_n C s k
    by_cases h : C 7 k 2 = s
    · refine ⟨n + 1, by omega, by rw [qci_1 h, h2, nI_1], ⟨fun q => by omega, fun q => absurd ⟨k, by omega, h⟩ q⟩⟩
    · refine ⟨n, by omega, by rw [qci_0 h, h2]; exact Int32.add_zero _, ⟨fun q => qx_nomore (P := fun j => C 7 j 2 = s) (h3.mp q) h, fun q => h3.mpr (fun z => q (qx_more z))⟩⟩
/-- the word of a standstill -/
noncomputable def qst (C : fj_N) : Int32 := @ite _ (∃ j, j < 12 ∧ qh_live C j) (Classical.propDecidable _) (@ite _ (∃ j, j < 12 ∧ C 7 j 2 = 5) (Classical.propDecidable _) 1 3) 2
theorem qk_stand (C N : fj_N) : dm_51 (C, N) = some (qst C, (C, N)) := by
  obtain ⟨n, n1, n2, n3⟩ := qcl_n C 12
  obtain ⟨m, m1, m2, m3⟩ := qci_n C 5 12
  unfold qst
  by_cases h : ∃ j, j < 12 ∧ qh_live C j
  · have hn : ¬ n = 0 := fun q => n3.mp q h
    have h1 : ¬ nI n = 0 := nI_ne0 (by omega) (by omega)
    rw [if_pos h]
    by_cases h5 : ∃ j, j < 12 ∧ C 7 j 2 = 5
    · have hm : ¬ m = 0 := fun q => m3.mp q h5
      have h2 : ¬ nI m ≤ 0 := nI_nle (by omega) (by omega)
      rw [if_pos h5]
      simp only [dm_51, qk_cl, n2, Option.bind_some, if_neg h1, qk_ci, m2, if_neg h2]
    · have hm : m = 0 := m3.mpr h5
      subst hm
      rw [if_neg h5]
      simp only [dm_51, qk_cl, n2, Option.bind_some, if_neg h1, qk_ci, m2, if_pos (show nI 0 ≤ 0 from by decide)]
  · have hn : n = 0 := n3.mpr h
    subst hn
    rw [if_neg h]
    simp only [dm_51, qk_cl, n2, Option.bind_some, if_pos (show nI 0 = 0 from rfl)]
