/-! FAULTS -/
theorem qx_uu (M : fj_N) (κ i j : Nat) (v w : Int32) : fj_u1 (fj_u1 M κ i j v) κ i j w = fj_u1 M κ i j w := by
  funext a b c
  by_cases h : a = κ ∧ b = i ∧ c = j
  · simp only [qx_u, if_pos h]
  · simp only [qx_u, if_neg h]
theorem qx_bit (x : Int32) {u : Nat} (hu : u < 12) : (x &&& ((1 : Int32) <<< (nI u &&& 31))) = 0 ↔ ¬ ((x >>> (nI u &&& 31)) &&& 1) = 1 := by
  have e1 : ((1 : Int32) <<< (nI u &&& 31)).toBitVec = BitVec.twoPow 32 u := co_dec (N := 12) (P := fun i => ((1 : Int32) <<< (nI i &&& 31)).toBitVec = BitVec.twoPow 32 i) (by decide) hu
  have e2 : ((nI u &&& 31).toBitVec.smod 32).toNat = u := co_dec (N := 12) (P := fun i => ((nI i &&& 31).toBitVec.smod 32).toNat = i) (by decide) hu
  have e3 : ¬ BitVec.twoPow 32 u = 0#32 := co_dec (N := 12) (P := fun i => ¬ BitVec.twoPow 32 i = 0#32) (by decide) hu
  have e4 : (x >>> (nI u &&& 31)).toBitVec = x.toBitVec.sshiftRight u := by
    rw [Int32.toBitVec_shiftRight, BitVec.sshiftRight_eq', e2]
  have h1 : (x &&& ((1 : Int32) <<< (nI u &&& 31))) = 0 ↔ x.toBitVec.getLsbD u = false := by
    rw [← Int32.toBitVec_inj, Int32.toBitVec_and, e1, BitVec.and_twoPow]
    have e0 : (0 : Int32).toBitVec = 0#32 := rfl
    rw [e0]
    cases h : x.toBitVec.getLsbD u
    · simp
    · simp [e3]
  have h2 : ((x >>> (nI u &&& 31)) &&& 1) = 1 ↔ x.toBitVec.getLsbD u = true := by
    rw [← Int32.toBitVec_inj, Int32.toBitVec_and, e4]
    have e0 : (1 : Int32).toBitVec = 1#32 := rfl
    rw [e0, BitVec.and_one_eq_setWidth_ofBool_getLsbD, BitVec.getLsbD_sshiftRight]
    have h3 : u + 0 < 32 := by omega
    rw [if_pos h3, Nat.add_zero]
    cases h : x.toBitVec.getLsbD u <;> decide
  rw [h1, h2]
  cases x.toBitVec.getLsbD u <;> decide
/-- a change of task t, of scalars and of the fallen -/
theorem qR_tk {B B' : qB} {C N C' N' : fj_N} {t : Nat} (h : qR B C N) (hS : qS B' C' N') (hC : ∀ κ i j, κ ≠ 0 → κ ≠ 6 → ¬ (7 ≤ κ ∧ κ ≤ 9 ∧ i = t) → C' κ i j = C κ i j)
    (hN : ∀ κ i j, κ ≠ 20 → κ ≠ 39 → ¬ (23 ≤ κ ∧ κ ≤ 34 ∧ κ ≠ 26 ∧ κ ≠ 28 ∧ i = 0 ∧ j = t) → ¬ (κ = 26 ∧ i = 0 ∧ 24 * t ≤ j ∧ j < 24 * t + 24) → ¬ (κ = 28 ∧ i = 0 ∧ 12 * t ≤ j ∧ j < 12 * t + 12) → N' κ i j = N κ i j) (hq : qT C' N' t) : qR B' C' N' := by
  obtain ⟨-, hA, hT, hCh⟩ := h
  refine ⟨hS, qA_cg hA (fun κ j _ _ => hC _ _ _ (by omega) (by omega) (by omega)) (fun κ j _ => hN _ _ _ (by omega) (by omega) (by omega) (by omega) (by omega)), fun i hi => ?_, qC_all hCh (fun κ i j _ _ => hC _ _ _ (by omega) (by omega) (by omega)) (fun κ i j _ _ => hN _ _ _ (by omega) (by omega) (by omega) (by omega) (by omega))⟩
  by_cases hit : i = t
  · rw [hit]; exact hq
  · exact qT_cg (hT i hi) (fun j => hC _ _ _ (by omega) (by omega) (by omega)) (fun j _ => hC _ _ _ (by omega) (by omega) (by omega)) (fun j _ => hC _ _ _ (by omega) (by omega) (by omega)) (fun κ _ _ _ _ => hN _ _ _ (by omega) (by omega) (by omega) (by omega) (by omega)) (fun j _ => hN _ _ _ (by omega) (by omega) (by omega) (by omega) (by omega)) (fun j _ => hN _ _ _ (by omega) (by omega) (by omega) (by omega) (by omega))
def qka (C : fj_N) (t : Nat) (f : Int32) : fj_N := fj_u1 (fj_u1 (fj_u1 C 0 0 13 (C 0 0 13 + 1)) 7 t 2 8) 7 t 9 (-f)
def qkt (C : fj_N) (t : Nat) (f : Int32) : fj_N := fj_u1 (fj_u1 (fj_u1 (fj_u1 (fj_u1 (fj_u1 (fj_u1 C 0 0 13 (C 0 0 13 + 1)) 7 t 2 1) 7 t 3 (C 7 t 6)) 8 t 0 f) 7 t 4 1) 7 t 5 0) 7 t 6 (-1)
def qna (N : fj_N) (t m : Nat) (f : Int32) : fj_N := fj_u1 (fj_u1 (fj_u1 (fj_u1 (fj_u1 (fj_u1 N 20 0 25 (N 20 0 25 + 1)) 31 0 t 0) 23 0 t 8) 32 0 t (-f)) 39 0 m (nI t)) 20 0 27 (nI (m + 1))
def qnt (N : fj_N) (t : Nat) (f : Int32) : fj_N := fj_u1 (fj_u1 (fj_u1 (fj_u1 (fj_u1 (fj_u1 (fj_u1 (fj_u1 N 20 0 25 (N 20 0 25 + 1)) 31 0 t 0) 23 0 t 1) 24 0 t (N 29 0 t)) 25 0 t 1) 26 0 (24 * t) f) 27 0 t 0) 29 0 t (-1)
theorem qk_strike1 {C N0 : fj_N} {t : Nat} {f : Int32} (h : C 7 t 6 = -1 ∨ f = 9) : dm_63 t f (C, N0) = some (1, (qka C t f, N0)) := by
  have e : fj_u1 C 0 0 13 (C 0 0 13 + 1) 7 t 6 = C 7 t 6 := qx_un (by omega)
  by_cases h1 : C 7 t 6 = -1
  · simp only [dm_63, e, if_pos h1, dm_63_35, dm_9, Option.bind_some, qka]
  · simp only [dm_63, e, if_neg h1, if_pos (h.resolve_left h1), dm_63_35, dm_9, Option.bind_some, qka]
theorem qk_strike0 {C N0 : fj_N} {t : Nat} {f : Int32} (h1 : ¬ C 7 t 6 = -1) (h2 : ¬ f = 9) : dm_63 t f (C, N0) = some (0, (qkt C t f, N0)) := by
  have e : fj_u1 C 0 0 13 (C 0 0 13 + 1) 7 t 6 = C 7 t 6 := qx_un (by omega)
  simp only [dm_63, e, if_neg h1, if_neg h2, dm_8, Option.bind_some, qkt]
section QNF
variable {C0 N : fj_N} {t m : Nat} {f : Int32}
theorem qn_fall (ht : t < 12) (hm : N 20 0 27 = nI m) (hm2 : m < 12) (tr : Int32) : dm_94_83 (nI t) f tr (C0, fj_u1 (fj_u1 N 20 0 25 (N 20 0 25 + 1)) 31 0 t 0) = some (C0, qna N t m f) := by
  have e27 : fj_u1 (fj_u1 (fj_u1 (fj_u1 N 20 0 25 (N 20 0 25 + 1)) 31 0 t 0) 23 0 t 8) 32 0 t (-f) 20 0 27 = nI m := by
    rw [qx_un (by omega), qx_un (by omega), qx_un (by omega), qx_un (by omega)]; exact hm
  have e27' : fj_u1 (fj_u1 (fj_u1 (fj_u1 (fj_u1 N 20 0 25 (N 20 0 25 + 1)) 31 0 t 0) 23 0 t 8) 32 0 t (-f)) 39 0 m (nI t) 20 0 27 = nI m := by
    rw [qx_un (by omega)]; exact e27
  simp only [dm_94_83, qx_cl (j := t) (show t ≤ 1000000 by omega), qx_neg (n := t) (show t ≤ 100000000 by omega), Nat.not_le.mpr ht, or_self, ↓reduceIte, e27, qx_cl (j := m) (show m ≤ 1000000 by omega), qx_neg (n := m) (show m ≤ 100000000 by omega), Nat.not_le.mpr hm2, or_self, e27', nI_1, qna]
theorem qn_faultK (ht : t < 12) (hm : N 20 0 27 = nI m) (hm2 : m < 12) : dm_94 (nI t) f 0 (C0, N) = some (C0, qna N t m f) := by
  simp only [dm_94, qx_cl (j := t) (show t ≤ 1000000 by omega), qx_neg (n := t) (show t ≤ 100000000 by omega), Nat.not_le.mpr ht, or_self, ↓reduceIte, qn_fall ht hm hm2]
theorem qn_fault1 (ht : t < 12) (hm : N 20 0 27 = nI m) (hm2 : m < 12) (h : N 29 0 t < 0) : dm_94 (nI t) f 1 (C0, N) = some (C0, qna N t m f) := by
  have e29 : fj_u1 (fj_u1 N 20 0 25 (N 20 0 25 + 1)) 31 0 t 0 29 0 t = N 29 0 t := by rw [qx_un (by omega), qx_un (by omega)]
  simp only [dm_94, qx_cl (j := t) (show t ≤ 1000000 by omega), qx_neg (n := t) (show t ≤ 100000000 by omega), Nat.not_le.mpr ht, or_self, ↓reduceIte, qz1, e29, if_pos h, qn_fall ht hm hm2]
theorem qn_fault0 (ht : t < 12) (h : ¬ N 29 0 t < 0) : dm_94 (nI t) f 1 (C0, N) = some (C0, qnt N t f) := by
  have e29 : fj_u1 (fj_u1 N 20 0 25 (N 20 0 25 + 1)) 31 0 t 0 29 0 t = N 29 0 t := by rw [qx_un (by omega), qx_un (by omega)]
  have e29' : fj_u1 (fj_u1 (fj_u1 N 20 0 25 (N 20 0 25 + 1)) 31 0 t 0) 23 0 t 1 29 0 t = N 29 0 t := by rw [qx_un (by omega), qx_un (by omega), qx_un (by omega)]
  have hw : 24 * t < 288 := by omega
  unfold qnt
  simp only [dm_94, qx_cl (j := t) (show t ≤ 1000000 by omega), qx_neg (n := t) (show t ≤ 100000000 by omega), Nat.not_le.mpr ht, or_self, ↓reduceIte, qz1, e29, if_neg h, e29', qx_24]
  generalize 24 * t = w at *
  simp only [qx_cl (j := w) (show w ≤ 1000000 by omega), qx_neg (n := w) (show w ≤ 100000000 by omega), Nat.not_le.mpr hw, or_self, ↓reduceIte]
end QNF
theorem qR_falls {B : qB} {C N : fj_N} {t m : Nat} {f : Int32} (h : qR B C N) (ht : t < 12) : qR B (qka C t f) (qna N t m f) := by
  obtain ⟨⟨s1, s2, s3, s4, s5, s6, s7, s8⟩, s9, s10⟩ := h.1
  have ec0 : ∀ j, j ≠ 13 → qka C t f 0 0 j = C 0 0 j := fun j hj => by unfold qka; rw [qx_un (by omega), qx_un (by omega), qx_un (by omega)]
  have ec13 : qka C t f 0 0 13 = C 0 0 13 + 1 := by unfold qka; rw [qx_un (by omega), qx_un (by omega), qx_us]
  have en0 : ∀ j, j ≠ 25 → j ≠ 27 → qna N t m f 20 0 j = N 20 0 j := fun j _ _ => by unfold qna; rw [qx_un (by omega), qx_un (by omega), qx_un (by omega), qx_un (by omega), qx_un (by omega), qx_un (by omega)]
  have en25 : qna N t m f 20 0 25 = N 20 0 25 + 1 := by unfold qna; rw [qx_un (by omega), qx_un (by omega), qx_un (by omega), qx_un (by omega), qx_un (by omega), qx_us]
  refine qR_tk (t := t) h ?_ (fun κ i j _ _ _ => by unfold qka; rw [qx_un (by omega), qx_un (by omega), qx_un (by omega)]) (fun κ i j _ _ _ _ _ => by unfold qna; rw [qx_un (by omega), qx_un (by omega), qx_un (by omega), qx_un (by omega), qx_un (by omega), qx_un (by omega)]) ?_
  · unfold qS
    rw [ec13, en25, ec0 11 (by omega), ec0 10 (by omega), ec0 8 (by omega), ec0 9 (by omega), ec0 6 (by omega), ec0 7 (by omega), ec0 12 (by omega), en0 18 (by omega) (by omega), en0 19 (by omega) (by omega), en0 20 (by omega) (by omega), en0 21 (by omega) (by omega), en0 22 (by omega) (by omega), en0 23 (by omega) (by omega), en0 24 (by omega) (by omega)]
    exact ⟨⟨s1, s2, s3, s4, s5, s6, s7, by rw [s8]⟩, s9, s10⟩
  · obtain ⟨⟨a1, a2, a3, a4, a5, a6, a7, a8⟩, b, ⟨d, d1, d2, d3⟩, ⟨r, r1, r2, r3⟩, e, g, w⟩ := h.2.2.1 t ht
    have ec : ∀ j, j ≠ 2 → j ≠ 9 → qka C t f 7 t j = C 7 t j := fun j _ _ => by unfold qka; rw [qx_un (by omega), qx_un (by omega), qx_un (by omega)]
    have c2 : qka C t f 7 t 2 = 8 := by unfold qka; rw [qx_un (by omega), qx_us]
    have c9 : qka C t f 7 t 9 = -f := by unfold qka; rw [qx_us]
    have en : ∀ κ j, 23 ≤ κ → κ ≤ 34 → κ ≠ 23 → κ ≠ 31 → κ ≠ 32 → qna N t m f κ 0 j = N κ 0 j := fun κ j _ _ _ _ _ => by unfold qna; rw [qx_un (by omega), qx_un (by omega), qx_un (by omega), qx_un (by omega), qx_un (by omega), qx_un (by omega)]
    have n23 : qna N t m f 23 0 t = 8 := by unfold qna; rw [qx_un (by omega), qx_un (by omega), qx_un (by omega), qx_us]
    have n31 : qna N t m f 31 0 t = 0 := by unfold qna; rw [qx_un (by omega), qx_un (by omega), qx_un (by omega), qx_un (by omega), qx_us]
    have n32 : qna N t m f 32 0 t = -f := by unfold qna; rw [qx_un (by omega), qx_un (by omega), qx_us]
    unfold qT
    rw [c2, c9, n23, n31, n32, ec 3 (by omega) (by omega), ec 4 (by omega) (by omega), ec 5 (by omega) (by omega), ec 6 (by omega) (by omega), ec 7 (by omega) (by omega), ec 10 (by omega) (by omega), ec 11 (by omega) (by omega), en 24 t (by omega) (by omega) (by omega) (by omega) (by omega), en 25 t (by omega) (by omega) (by omega) (by omega) (by omega), en 27 t (by omega) (by omega) (by omega) (by omega) (by omega), en 29 t (by omega) (by omega) (by omega) (by omega) (by omega), en 30 t (by omega) (by omega) (by omega) (by omega) (by omega)]
    refine ⟨⟨rfl, a2, a3, a4, a5, a6, (if_neg (by decide)).symm, rfl⟩, ⟨fun q => absurd q (by unfold qx_w; decide), fun q => absurd q (by decide)⟩, ⟨d, d1, d2, fun j hj => ?_⟩, ⟨r, r1, r2, fun j hj => ?_⟩, ⟨8, by omega, rfl⟩, g, fun q => absurd q (by decide), fun q => absurd q (by decide), fun q => absurd q (by decide)⟩
    · rw [en 26 _ (by omega) (by omega) (by omega) (by omega) (by omega)]
      unfold qka
      rw [qx_un (by omega), qx_un (by omega), qx_un (by omega)]
      exact d3 j hj
    · rw [en 28 _ (by omega) (by omega) (by omega) (by omega) (by omega)]
      unfold qka
      rw [qx_un (by omega), qx_un (by omega), qx_un (by omega)]
      exact r3 j hj
theorem qR_trap {B : qB} {C N : fj_N} {t : Nat} {f : Int32} (h : qR B C N) (ht : t < 12) : qR B (qkt C t f) (qnt N t f) := by
  obtain ⟨⟨s1, s2, s3, s4, s5, s6, s7, s8⟩, s9, s10⟩ := h.1
  have ec0 : ∀ j, j ≠ 13 → qkt C t f 0 0 j = C 0 0 j := fun j hj => by unfold qkt; rw [qx_un (by omega), qx_un (by omega), qx_un (by omega), qx_un (by omega), qx_un (by omega), qx_un (by omega), qx_un (by omega)]
  have ec13 : qkt C t f 0 0 13 = C 0 0 13 + 1 := by unfold qkt; rw [qx_un (by omega), qx_un (by omega), qx_un (by omega), qx_un (by omega), qx_un (by omega), qx_un (by omega), qx_us]
  have en0 : ∀ j, j ≠ 25 → qnt N t f 20 0 j = N 20 0 j := fun j _ => by unfold qnt; rw [qx_un (by omega), qx_un (by omega), qx_un (by omega), qx_un (by omega), qx_un (by omega), qx_un (by omega), qx_un (by omega), qx_un (by omega)]
  have en25 : qnt N t f 20 0 25 = N 20 0 25 + 1 := by unfold qnt; rw [qx_un (by omega), qx_un (by omega), qx_un (by omega), qx_un (by omega), qx_un (by omega), qx_un (by omega), qx_un (by omega), qx_us]
  refine qR_tk (t := t) h ?_ (fun κ i j _ _ _ => by unfold qkt; rw [qx_un (by omega), qx_un (by omega), qx_un (by omega), qx_un (by omega), qx_un (by omega), qx_un (by omega), qx_un (by omega)]) (fun κ i j _ _ _ _ _ => by unfold qnt; rw [qx_un (by omega), qx_un (by omega), qx_un (by omega), qx_un (by omega), qx_un (by omega), qx_un (by omega), qx_un (by omega), qx_un (by omega)]) ?_
  · unfold qS
    rw [ec13, en25, ec0 11 (by omega), ec0 10 (by omega), ec0 8 (by omega), ec0 9 (by omega), ec0 6 (by omega), ec0 7 (by omega), ec0 12 (by omega), en0 18 (by omega), en0 19 (by omega), en0 20 (by omega), en0 21 (by omega), en0 22 (by omega), en0 23 (by omega), en0 24 (by omega)]
    exact ⟨⟨s1, s2, s3, s4, s5, s6, s7, by rw [s8]⟩, s9, s10⟩
  · obtain ⟨⟨a1, a2, a3, a4, a5, a6, a7, a8⟩, b, ⟨d, d1, d2, d3⟩, ⟨r, r1, r2, r3⟩, e, g, w⟩ := h.2.2.1 t ht
    have cs : qkt C t f 7 t 2 = 1 ∧ qkt C t f 7 t 3 = C 7 t 6 ∧ qkt C t f 8 t 0 = f ∧ qkt C t f 7 t 4 = 1 ∧ qkt C t f 7 t 5 = 0 ∧ qkt C t f 7 t 6 = -1 ∧ qkt C t f 7 t 7 = C 7 t 7 ∧ qkt C t f 7 t 9 = C 7 t 9 := by
      unfold qkt
      simp [qx_u]
    obtain ⟨c2, c3, c8, c4, c5, c6, c7, c9⟩ := cs
    have ns : qnt N t f 23 0 t = 1 ∧ qnt N t f 24 0 t = N 29 0 t ∧ qnt N t f 25 0 t = 1 ∧ qnt N t f 26 0 (24 * t) = f ∧ qnt N t f 27 0 t = 0 ∧ qnt N t f 29 0 t = -1 ∧ qnt N t f 30 0 t = N 30 0 t ∧ qnt N t f 31 0 t = 0 ∧ qnt N t f 32 0 t = N 32 0 t := by
      unfold qnt
      simp [qx_u]
    obtain ⟨n23, n24, n25, n26, n27, n29, n30, n31, n32⟩ := ns
    unfold qT
    rw [c2, c3, c4, c5, c6, c7, c9, n23, n24, n25, n27, n29, n30, n31, n32]
    refine ⟨⟨rfl, a5, rfl, rfl, rfl, a6, (if_neg (by decide)).symm, a8⟩, ⟨fun q => absurd q (by unfold qx_w; decide), fun q => absurd q (by decide)⟩, ⟨1, by omega, rfl, fun j hj => ?_⟩, ⟨0, by omega, rfl, fun j hj => absurd hj (Nat.not_lt_zero j)⟩, ⟨1, by omega, rfl⟩, Or.inl rfl, fun q => absurd q (by decide), fun q => absurd q (by decide), fun q => absurd q (by decide)⟩
    have hj : j = 0 := by omega
    subst hj
    rw [c8]
    exact n26
theorem qR_c6 {B : qB} {C N : fj_N} {m : Nat} {v : Int32} (h : qR B C N) : qR B (fj_u1 C 6 0 m v) N := by
  obtain ⟨hS, hA, hT, hC⟩ := h
  exact ⟨qS_cg hS (fun j => qx_un (by omega)) (fun j _ => rfl), qA_cg hA (fun κ j _ _ => qx_un (by omega)) (fun κ j _ => rfl), qT_all hT (fun κ i j _ _ => qx_un (by omega)) (fun κ i j _ _ => rfl), qC_all hC (fun κ i j _ _ => qx_un (by omega)) (fun κ i j _ _ => rfl)⟩
/-! how many are faulted -/
def qn8 (C : fj_N) : Nat → Nat
  | 0 => 0
  | k + 1 => qn8 C k + (if C 7 k 2 = 8 then 1 else 0)
theorem qn8_s (C : fj_N) (k : Nat) : qn8 C (k + 1) = qn8 C k + (if C 7 k 2 = 8 then 1 else 0) := rfl
theorem qn8_le (C : fj_N) (k : Nat) : qn8 C k ≤ k := by
  induction k with
  | zero => exact Nat.le_refl 0
  | succ k ih =>
    rw [qn8_s]
    split <;> omega
theorem qn8_eq {C C' : fj_N} (k : Nat) (h : ∀ j, j < k → (C' 7 j 2 = 8 ↔ C 7 j 2 = 8)) : qn8 C' k = qn8 C k := by
  induction k with
  | zero => rfl
  | succ k ih =>
    rw [qn8_s, qn8_s, ih (fun j hj => h j (by omega))]
    by_cases q : C 7 k 2 = 8
    · rw [if_pos q, if_pos ((h k (by omega)).mpr q)]
    · rw [if_neg q, if_neg (fun z => q ((h k (by omega)).mp z))]
theorem qn8_lt {C : fj_N} {u : Nat} (k : Nat) (hu : u < k) (h : ¬ C 7 u 2 = 8) : qn8 C k < k := by
  induction k with
  | zero => omega
  | succ k ih =>
    rw [qn8_s]
    by_cases q : u = k
    · subst q
      rw [if_neg h]
      have := qn8_le C u
      omega
    · have := ih (by omega)
      split <;> omega
theorem qn8_inc {C C' : fj_N} {u : Nat} (k : Nat) (hu : u < k) (h : ¬ C 7 u 2 = 8) (h' : C' 7 u 2 = 8) (ho : ∀ j, j ≠ u → C' 7 j 2 = C 7 j 2) : qn8 C' k = qn8 C k + 1 := by
  induction k with
  | zero => omega
  | succ k ih =>
    rw [qn8_s, qn8_s]
    by_cases q : u = k
    · subst q
      rw [if_neg h, if_pos h', qn8_eq u (fun j hj => by rw [ho j (by omega)])]
    · rw [ih (by omega), ho k (fun e => q e.symm)]
      omega
theorem qh_live_8 {C : fj_N} {u : Nat} (h : qh_live C u) : ¬ C 7 u 2 = 8 := fun q => h.2 (by rw [q]; decide)
def qI (B : qB) (C N : fj_N) (m : Nat) : Prop := qR B C N ∧ N 20 0 27 = nI m ∧ m ≤ qn8 C 12 ∧ ∀ k, k < m → ∃ u : Nat, u < 12 ∧ C 6 0 k = nI u ∧ N 39 0 k = nI u
theorem qI_lt {B : qB} {C N : fj_N} {m u : Nat} (h : qI B C N m) (hu : u < 12) (hl : qh_live C u) : m < 12 := Nat.lt_of_le_of_lt h.2.2.1 (qn8_lt 12 hu (qh_live_8 hl))
theorem qI_fall {B : qB} {C N : fj_N} {m u : Nat} {f : Int32} (h : qI B C N m) (hu : u < 12) (hl : qh_live C u) : qI B (fj_u1 (qka C u f) 6 0 m (nI u)) (qna N u m f) (m + 1) := by
  obtain ⟨h1, h2, h3, h4⟩ := h
  refine ⟨qR_c6 (qR_falls h1 hu), by unfold qna; rw [qx_us], ?_, fun k hk => ?_⟩
  · have := qn8_inc (C := C) (C' := fj_u1 (qka C u f) 6 0 m (nI u)) 12 hu (qh_live_8 hl) (by rw [qx_un (by omega)]; unfold qka; rw [qx_un (by omega), qx_us]) (fun j hj => by rw [qx_un (by omega)]; unfold qka; rw [qx_un (by omega), qx_un (by omega), qx_un (by omega)])
    omega
  · by_cases hkm : k = m
    · subst hkm
      exact ⟨u, hu, qx_us _ _ _ _ _, by unfold qna; rw [qx_un (by omega), qx_us]⟩
    · obtain ⟨w, w1, w2, w3⟩ := h4 k (by omega)
      refine ⟨w, w1, ?_, ?_⟩
      · rw [qx_un (by omega)]; unfold qka; rw [qx_un (by omega), qx_un (by omega), qx_un (by omega)]; exact w2
      · unfold qna; rw [qx_un (by omega), qx_un (by omega), qx_un (by omega), qx_un (by omega), qx_un (by omega), qx_un (by omega)]; exact w3
theorem qI_trap {B : qB} {C N : fj_N} {m u : Nat} {f : Int32} (h : qI B C N m) (hu : u < 12) (hl : qh_live C u) : qI B (qkt C u f) (qnt N u f) m := by
  obtain ⟨h1, h2, h3, h4⟩ := h
  refine ⟨qR_trap h1 hu, by unfold qnt; rw [qx_un (by omega), qx_un (by omega), qx_un (by omega), qx_un (by omega), qx_un (by omega), qx_un (by omega), qx_un (by omega), qx_un (by omega)]; exact h2, ?_, fun k hk => ?_⟩
  · have : qn8 (qkt C u f) 12 = qn8 C 12 := qn8_eq 12 (fun j hj => by
      by_cases q : j = u
      · subst q
        have c2 : qkt C j f 7 j 2 = 1 := by
          unfold qkt
          simp [qx_u]
        rw [c2]
        exact ⟨fun z => absurd z (by decide), fun z => absurd z (qh_live_8 hl)⟩
      · have c2 : qkt C u f 7 j 2 = C 7 j 2 := by unfold qkt; rw [qx_un (by omega), qx_un (by omega), qx_un (by omega), qx_un (by omega), qx_un (by omega), qx_un (by omega), qx_un (by omega)]
        rw [c2])
    rw [this]; exact h3
  · obtain ⟨w, w1, w2, w3⟩ := h4 k (by omega)
    refine ⟨w, w1, ?_, ?_⟩
    · unfold qkt; rw [qx_un (by omega), qx_un (by omega), qx_un (by omega), qx_un (by omega), qx_un (by omega), qx_un (by omega), qx_un (by omega)]; exact w2
    · unfold qnt; rw [qx_un (by omega), qx_un (by omega), qx_un (by omega), qx_un (by omega), qx_un (by omega), qx_un (by omega), qx_un (by omega), qx_un (by omega)]; exact w3
