/-! A FAULT AND ITS WAY -/
/-- dm_62 with what comes behind it left open -/
def qk62 (g : Int32 → Int32 → Int32 → fj_M → Option fj_M) (a1 a2 : Int32) (M : fj_M) : Option fj_M := ((dm_39 a1 M).bind fun q1 => (if q1.1 = 0 then g a1 a2 0 q1.2 else (if a1 < 0 ∨ 12 ≤ a1.toNatClampNeg then none else ((dm_63 a1.toNatClampNeg a2 q1.2).bind fun q4 => (if q4.1 = 0 then g a1 a2 0 q4.2 else g a1 a2 (0 + 1) ((fj_u1 q4.2.1 6 0 0 a1), q4.2.2))))))
theorem qk62_f (g : Int32 → Int32 → Int32 → fj_M → Option fj_M) {C N0 : fj_N} {u : Nat} {f : Int32} (hu : u < 12) (hl : qh_live C u) (ht : C 7 u 6 = -1 ∨ f = 9) : qk62 g (nI u) f (C, N0) = g (nI u) f (nI 1) (fj_u1 (qka C u f) 6 0 0 (nI u), N0) := by
  have ka := qk_alive1 (M := (C, N0)) ((qh_alive_j hu).mpr hl)
  have e01 : (0 : Int32) + 1 = nI 1 := by decide
  simp only [qk62, ka, Option.bind_some, ↓reduceIte, qz1, qx_cl (j := u) (show u ≤ 1000000 by omega), qx_neg (n := u) (show u ≤ 100000000 by omega), Nat.not_le.mpr hu, or_self, qk_strike1 (N0 := N0) ht, e01]
theorem qk62_t (g : Int32 → Int32 → Int32 → fj_M → Option fj_M) {C N0 : fj_N} {u : Nat} {f : Int32} (hu : u < 12) (hl : qh_live C u) (ht : ¬ C 7 u 6 = -1) (hf : ¬ f = 9) : qk62 g (nI u) f (C, N0) = g (nI u) f (nI 0) (qkt C u f, N0) := by
  have ka := qk_alive1 (M := (C, N0)) ((qh_alive_j hu).mpr hl)
  simp only [qk62, ka, Option.bind_some, ↓reduceIte, qz1, qx_cl (j := u) (show u ≤ 1000000 by omega), qx_neg (n := u) (show u ≤ 100000000 by omega), Nat.not_le.mpr hu, or_self, qk_strike0 (N0 := N0) ht hf, nI_0]
theorem qk62_e (a1 a2 : Int32) (M : fj_M) : dm_62 a1 a2 M = qk62 dm_62_34 a1 a2 M := by
  unfold dm_62 qk62
  exact Eq.refl _
theorem qk_62f {C N0 : fj_N} {u : Nat} {f : Int32} (hu : u < 12) (hl : qh_live C u) (ht : C 7 u 6 = -1 ∨ f = 9) : dm_62 (nI u) f (C, N0) = dm_62_34 (nI u) f (nI 1) (fj_u1 (qka C u f) 6 0 0 (nI u), N0) := (qk62_e _ _ _).trans (qk62_f dm_62_34 hu hl ht)
theorem qk_62t {C N0 : fj_N} {u : Nat} {f : Int32} (hu : u < 12) (hl : qh_live C u) (ht : ¬ C 7 u 6 = -1) (hf : ¬ f = 9) : dm_62 (nI u) f (C, N0) = dm_62_34 (nI u) f (nI 0) (qkt C u f, N0) := (qk62_e _ _ _).trans (qk62_t dm_62_34 hu hl ht hf)
theorem qk_34 (a1 a2 a3 : Int32) (M : fj_M) : dm_62_34 a1 a2 a3 M = dm_62_37 40 a1 a2 a3 (nI 0) none none none M := by
  unfold dm_62_34
  rw [nI_0]
theorem qn_95 (M : fj_M) : dm_95 M = dm_95_2 40 (nI 0) none M := by
  unfold dm_95
  rw [nI_0]
theorem qx_way {B : qB} {C N : fj_N} {m : Nat} (hI : qI B C N m) : ∃ C' N' : fj_N, qR B C' N' ∧ C' 0 0 7 = C 0 0 7 ∧ (∀ (a1 a2 : Int32) (N0 : fj_N), dm_62_34 a1 a2 (nI m) (C, N0) = some (C', N0)) ∧ ∀ C0 : fj_N, dm_95 (C0, N) = some (C0, N') := by
  obtain ⟨C', N', r1, r2, r3, r4⟩ := qx_outer 12 0 40 (by omega) (by omega) C N m hI (Nat.zero_le m)
  refine ⟨C', N', r1, r2, fun a1 a2 N0 => ?_, fun C0 => ?_⟩
  · rw [qk_34]
    exact r3 a1 a2 none none none N0
  · rw [qn_95]
    exact r4 none C0
/-- the running task's own fault -/
theorem qx_bring {B : qB} {C N : fj_N} {u : Nat} {f : Int32} (hR : qR B C N) (h27 : N 20 0 27 = 0) (hu : u < 12) (hl : qh_live C u) (hf : ¬ f = 9) : ∃ C' N2 N' : fj_N, (∀ N0 : fj_N, dm_62 (nI u) f (C, N0) = some (C', N0)) ∧ (∀ C0 : fj_N, dm_94 (nI u) f 1 (C0, N) = some (C0, N2)) ∧ (∀ C0 : fj_N, dm_95 (C0, N2) = some (C0, N')) ∧ qR B C' N' ∧ C' 0 0 7 = C 0 0 7 := by
  have hI := qx_none hR h27
  have h27' : N 20 0 27 = nI 0 := h27
  by_cases ht : C 7 u 6 = -1
  · have ht2 : N 29 0 u < 0 := (qx_trap hR hu).mpr ht
    obtain ⟨C', N', r1, r2, r3, r4⟩ := qx_way (qI_fall (f := f) hI hu hl)
    refine ⟨C', qna N u 0 f, N', fun N0 => ?_, fun C0 => qn_fault1 (m := 0) hu h27' (by omega) ht2, r4, r1, ?_⟩
    · rw [qk_62f hu hl (Or.inl ht)]
      exact r3 _ _ N0
    · rw [r2, qx_un (by omega)]
      unfold qka
      rw [qx_un (by omega), qx_un (by omega), qx_un (by omega)]
  · have ht2 : ¬ N 29 0 u < 0 := fun q => ht ((qx_trap hR hu).mp q)
    obtain ⟨C', N', r1, r2, r3, r4⟩ := qx_way (qI_trap (f := f) hI hu hl)
    refine ⟨C', qnt N u f, N', fun N0 => ?_, fun C0 => qn_fault0 hu ht2, r4, r1, ?_⟩
    · rw [qk_62t hu hl ht hf]
      exact r3 _ _ N0
    · rw [r2]
      unfold qkt
      rw [qx_un (by omega), qx_un (by omega), qx_un (by omega), qx_un (by omega), qx_un (by omega), qx_un (by omega), qx_un (by omega)]
/-- a kill -/
theorem qx_kill1 {B : qB} {C N : fj_N} {u : Nat} (hR : qR B C N) (h27 : N 20 0 27 = 0) (hu : u < 12) (hl : qh_live C u) : ∃ C' N2 N' : fj_N, (∀ N0 : fj_N, dm_62 (nI u) 9 (C, N0) = some (C', N0)) ∧ (∀ C0 : fj_N, dm_94 (nI u) 9 0 (C0, N) = some (C0, N2)) ∧ (∀ C0 : fj_N, dm_95 (C0, N2) = some (C0, N')) ∧ qR B C' N' ∧ C' 0 0 7 = C 0 0 7 := by
  have hI := qx_none hR h27
  have h27' : N 20 0 27 = nI 0 := h27
  obtain ⟨C', N', r1, r2, r3, r4⟩ := qx_way (qI_fall (f := 9) hI hu hl)
  refine ⟨C', qna N u 0 9, N', fun N0 => ?_, fun C0 => qn_faultK (m := 0) hu h27' (by omega), r4, r1, ?_⟩
  · rw [qk_62f hu hl (Or.inr rfl)]
    exact r3 _ _ N0
  · rw [r2, qx_un (by omega)]
    unfold qka
    rw [qx_un (by omega), qx_un (by omega), qx_un (by omega)]
