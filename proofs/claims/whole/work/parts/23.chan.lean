/-! CHANNELS -/
theorem qx_8 (c : Nat) : (8 : Int32) * nI c = nI (8 * c) := qx_mul 8 c
theorem qx_24 (c : Nat) : (24 : Int32) * nI c = nI (24 * c) := qx_mul 24 c
theorem qx_12 (c : Nat) : (12 : Int32) * nI c = nI (12 * c) := qx_mul 12 c
theorem qn_comes {C0 N : fj_N} {c n : Nat} {x : Int32} (hc : c < 6) (hn : N 36 0 c = nI n) (h : n < 8) : dm_89 (nI c) x (C0, N) = some (C0, fj_u1 (fj_u1 N 37 0 (8 * c + n) x) 36 0 c (nI (n + 1))) := by
  have hw : 8 * c + n < 48 := by omega
  have e : fj_u1 N 37 0 (8 * c + n) x 36 0 c = nI n := by rw [qx_un (by omega)]; exact hn
  simp only [dm_89, qx_cl (j := c) (show c ≤ 1000000 by omega), qx_neg (n := c) (show c ≤ 100000000 by omega), Nat.not_le.mpr hc, or_self, ↓reduceIte, hn, qx_8, qx_add]
  generalize 8 * c + n = w at *
  simp only [qx_cl (j := w) (show w ≤ 1000000 by omega), qx_neg (n := w) (show w ≤ 100000000 by omega), Nat.not_le.mpr hw, or_self, ↓reduceIte, e, nI_1]
def qsn (N : fj_N) (c k : Nat) : fj_N := fun κ i j => if κ = 37 ∧ i = 0 ∧ 8 * c ≤ j ∧ j < 8 * c + k then N 37 0 (j + 1) else N κ i j
theorem qsn_0 (N : fj_N) (c : Nat) : qsn N c 0 = N := by
  funext κ i j
  exact if_neg (by omega)
theorem qsn_s (N : fj_N) (c k : Nat) : fj_u1 (qsn N c k) 37 0 (8 * c + k) (qsn N c k 37 0 (8 * c + k + 1)) = qsn N c (k + 1) := by
  funext κ i j
  simp only [qx_u, qsn]
  by_cases h : κ = 37 ∧ i = 0 ∧ j = 8 * c + k
  · obtain ⟨rfl, rfl, rfl⟩ := h
    rw [if_pos ⟨rfl, rfl, rfl⟩, if_neg (by omega), if_pos (by omega)]
  · rw [if_neg h]
    by_cases h2 : κ = 37 ∧ i = 0 ∧ 8 * c ≤ j ∧ j < 8 * c + k
    · rw [if_pos h2, if_pos (by omega)]
    · rw [if_neg h2, if_neg (by omega)]
theorem qn_shift {C0 N : fj_N} {c n : Nat} {v : Int32} (hc : c < 6) (hn : N 36 0 c = nI n) (h : n < 8) : ∀ (m k fuel : Nat), k + m = n → m < fuel → dm_90_22 fuel (nI c) v (nI k) (C0, qsn N c k) = some (v, (C0, qsn N c n)) := by
  intro m
  induction m with
  | zero =>
    intro k fuel hk hf
    obtain ⟨f, rfl⟩ : ∃ f, fuel = f + 1 := ⟨fuel - 1, by omega⟩
    have hk : k = n := by omega
    subst hk
    have e : qsn N c k 36 0 c = nI k := by rw [← hn]; exact if_neg (by omega)
    simp only [dm_90_22, qx_cl (j := c) (show c ≤ 1000000 by omega), qx_neg (n := c) (show c ≤ 100000000 by omega), Nat.not_le.mpr hc, or_self, ↓reduceIte, e, if_pos (Int32.le_refl (nI k))]
  | succ m ih =>
    intro k fuel hk hf
    obtain ⟨f, rfl⟩ : ∃ f, fuel = f + 1 := ⟨fuel - 1, by omega⟩
    have e : qsn N c k 36 0 c = nI n := by rw [← hn]; exact if_neg (by omega)
    have h1 : ¬ nI n ≤ nI k := fun q => by
      have := (qx_le (a := n) (b := k) (by omega) (by omega)).mp q
      omega
    have h2 : 8 * c + k < 48 := by omega
    have h3 : 8 * c + k + 1 < 48 := by omega
    have hs := qsn_s N c k
    simp only [dm_90_22, qx_cl (j := c) (show c ≤ 1000000 by omega), qx_neg (n := c) (show c ≤ 100000000 by omega), Nat.not_le.mpr hc, or_self, ↓reduceIte, e, if_neg h1, qx_8, qx_add, nI_1]
    generalize hw : 8 * c + k = w at *
    generalize hw2 : w + 1 = w2 at *
    simp only [qx_cl (j := w) (show w ≤ 1000000 by omega), qx_neg (n := w) (show w ≤ 100000000 by omega), Nat.not_le.mpr h2, or_self, qx_cl (j := w2) (show w2 ≤ 1000000 by omega), qx_neg (n := w2) (show w2 ≤ 100000000 by omega), Nat.not_le.mpr h3, or_self, ↓reduceIte, hs]
    exact ih (k + 1) f (by omega) (by omega)
theorem qn_goes {C0 N : fj_N} {c n : Nat} (hc : c < 6) (hn : N 36 0 c = nI (n + 1)) (h : n < 8) : dm_90 (nI c) (C0, N) = some (N 37 0 (8 * c), (C0, qsn (fj_u1 N 36 0 c (nI n)) c n)) := by
  have hw : 8 * c < 48 := by omega
  have := qn_shift (C0 := C0) (N := fj_u1 N 36 0 c (nI n)) (c := c) (n := n) (v := N 37 0 (8 * c)) hc (qx_us _ _ _ _ _) h n 0 40 (by omega) (by omega)
  rw [qsn_0] at this
  simp only [dm_90, qx_cl (j := c) (show c ≤ 1000000 by omega), qx_neg (n := c) (show c ≤ 100000000 by omega), Nat.not_le.mpr hc, or_self, ↓reduceIte, hn, nI_pred, qx_8]
  generalize 8 * c = w at *
  simp only [qx_cl (j := w) (show w ≤ 1000000 by omega), qx_neg (n := w) (show w ≤ 100000000 by omega), Nat.not_le.mpr hw, or_self, ↓reduceIte]
  exact this
/-- a change of channel c alone -/
theorem qR_ch {B : qB} {C N C' N' : fj_N} {c : Nat} (h : qR B C N) (hC : ∀ κ i j, ¬ (κ = 10 ∧ i = c) → ¬ (κ = 11 ∧ i = c) → C' κ i j = C κ i j) (hN : ∀ κ i j, ¬ (κ = 35 ∧ i = 0 ∧ j = c) → ¬ (κ = 36 ∧ i = 0 ∧ j = c) → ¬ (κ = 37 ∧ i = 0 ∧ 8 * c ≤ j ∧ j < 8 * c + 8) → N' κ i j = N κ i j) (hq : qC C' N' c) : qR B C' N' := by
  obtain ⟨hS, hA, hT, hCh⟩ := h
  refine ⟨qS_cg hS (fun j => hC _ _ _ (by omega) (by omega)) (fun j _ => hN _ _ _ (by omega) (by omega) (by omega)), qA_cg hA (fun κ j _ _ => hC _ _ _ (by omega) (by omega)) (fun κ j _ => hN _ _ _ (by omega) (by omega) (by omega)), qT_all hT (fun κ i j _ _ => hC _ _ _ (by omega) (by omega)) (fun κ i j _ _ => hN _ _ _ (by omega) (by omega) (by omega)), fun c' hc' => ?_⟩
  by_cases hcc : c' = c
  · rw [hcc]; exact hq
  · exact qC_cg (hCh c' hc') (fun j => hC _ _ _ (by omega) (by omega)) (fun j _ => hC _ _ _ (by omega) (by omega)) (hN _ _ _ (by omega) (by omega) (by omega)) (hN _ _ _ (by omega) (by omega) (by omega)) (fun j _ => hN _ _ _ (by omega) (by omega) (by omega))
theorem qR_comes {B : qB} {C N : fj_N} {c n z : Nat} (x : Int32) (h : qR B C N) (hc : c < 6) (hn : C 10 c 1 = nI n) (hz : C 10 c 2 = nI z) (hnz : n < z) (hz8 : z ≤ 8) : qR B (fj_u1 (fj_u1 C 10 c 1 (nI (n + 1))) 11 c n x) (fj_u1 (fj_u1 N 37 0 (8 * c + n) x) 36 0 c (nI (n + 1))) := by
  obtain ⟨a, b, n', z', g1, g2, g3, g4, g5, g6⟩ := h.2.2.2 c hc
  have en : n' = n := (qx_eq (by omega) (by omega)).mp (g4.symm.trans hn)
  subst en
  refine qR_ch (c := c) h (fun κ i j _ _ => ?_) (fun κ i j _ _ _ => ?_) ⟨?_, ?_, n' + 1, z, by omega, by omega, hz8, ?_, ?_, fun j hj => ?_⟩
  · rw [qx_un (by omega), qx_un (by omega)]
  · rw [qx_un (by omega), qx_un (by omega)]
  · rw [qx_us, qx_un (by omega), qx_us]
  · rw [qx_un (by omega), qx_un (by omega), qx_un (by omega), qx_un (by omega)]; exact b
  · rw [qx_un (by omega), qx_us]
  · rw [qx_un (by omega), qx_un (by omega)]; exact hz
  · rw [qx_un (by omega)]
    by_cases hjn : j = n'
    · subst hjn
      rw [qx_us, qx_us]
    · rw [qx_un (by omega), qx_un (by omega), qx_un (by omega)]
      exact g6 j (by omega)
theorem qR_goes {B : qB} {C N : fj_N} {c n : Nat} (h : qR B C N) (hc : c < 6) (hn : C 10 c 1 = nI (n + 1)) (hn8 : n < 8) : qR B (fj_u1 (qsh C c n) 10 c 1 (nI n)) (qsn (fj_u1 N 36 0 c (nI n)) c n) ∧ N 37 0 (8 * c) = C 11 c 0 := by
  obtain ⟨a, b, n', z', g1, g2, g3, g4, g5, g6⟩ := h.2.2.2 c hc
  have en : n' = n + 1 := (qx_eq (by omega) (by omega)).mp (g4.symm.trans hn)
  subst en
  refine ⟨qR_ch (c := c) h (fun κ i j h1 h2 => ?_) (fun κ i j _ _ h3 => ?_) ⟨?_, ?_, n, z', by omega, by omega, g3, ?_, ?_, fun j hj => ?_⟩, by have := g6 0 (by omega); exact this⟩
  · rw [qx_un (by omega)]
    exact if_neg (by omega)
  · have e1 : qsn (fj_u1 N 36 0 c (nI n)) c n κ i j = fj_u1 N 36 0 c (nI n) κ i j := if_neg (by omega)
    rw [e1, qx_un (by omega)]
  · have e1 : qsn (fj_u1 N 36 0 c (nI n)) c n 36 0 c = fj_u1 N 36 0 c (nI n) 36 0 c := if_neg (by omega)
    rw [e1, qx_us, qx_us]
  · have e1 : qsn (fj_u1 N 36 0 c (nI n)) c n 35 0 c = fj_u1 N 36 0 c (nI n) 35 0 c := if_neg (by omega)
    have e2 : qsh C c n 10 c 2 = C 10 c 2 := if_neg (by omega)
    rw [e1, qx_un (by omega), qx_un (by omega), e2]; exact b
  · rw [qx_us]
  · have e2 : qsh C c n 10 c 2 = C 10 c 2 := if_neg (by omega)
    rw [qx_un (by omega), e2]; exact g5
  · have e1 : qsn (fj_u1 N 36 0 c (nI n)) c n 37 0 (8 * c + j) = fj_u1 N 36 0 c (nI n) 37 0 (8 * c + j + 1) := if_pos (by omega)
    have e2 : qsh C c n 11 c j = C 11 c (j + 1) := if_pos (by omega)
    rw [e1, qx_un (by omega), qx_un (by omega), e2]
    exact g6 (j + 1) (by omega)
theorem qR_size {B : qB} {C N : fj_N} {c n z : Nat} (h : qR B C N) (hc : c < 6) (hn : C 10 c 1 = nI n) (hnz : n ≤ z) (h1 : 1 ≤ z) (h8 : z ≤ 8) : qR B (fj_u1 C 10 c 2 (nI z)) (fj_u1 N 35 0 c (nI z)) := by
  obtain ⟨a, b, n', z', g1, g2, g3, g4, g5, g6⟩ := h.2.2.2 c hc
  have en : n' = n := (qx_eq (by omega) (by omega)).mp (g4.symm.trans hn)
  subst en
  refine qR_ch (c := c) h (fun κ i j _ _ => qx_un (by omega)) (fun κ i j _ _ _ => qx_un (by omega)) ⟨?_, ?_, n', z, hnz, h1, h8, ?_, ?_, fun j hj => ?_⟩
  · rw [qx_un (by omega), qx_un (by omega)]; exact a
  · rw [qx_us, qx_us]
  · rw [qx_un (by omega)]; exact g4
  · rw [qx_us]
  · rw [qx_un (by omega), qx_un (by omega)]; exact g6 j hj
