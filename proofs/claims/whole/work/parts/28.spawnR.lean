/-! SPAWNING KEEPS THE RELATION -/
section QSP
variable {C N : fj_N} {i : Nat} {p x : Int32}
theorem qsp_o {κ a b : Nat} (h7 : ¬ (κ = 7 ∧ (a = i ∨ b = 7))) (h8 : ¬ (κ = 8 ∧ a = i)) (h0 : ¬ (κ = 0 ∧ a = 0 ∧ b = 12)) : qsp C i p x κ a b = C κ a b := by
  unfold qsp qbg
  rw [qx_un (by omega), qx_un (by omega), qx_un (by omega), qx_un (by omega), qx_un (by omega), qx_un (by omega), qx_un (by omega), qx_un (by omega), qx_un (by omega)]
  exact if_neg (by omega)
theorem qsp_l {k : Nat} (hk : k < 12) (hki : k ≠ i) : qsp C i p x 7 k 7 = C 7 k 7 &&& qmk i := by
  unfold qsp qbg
  rw [qx_un (by omega), qx_un (by omega), qx_un (by omega), qx_un (by omega), qx_un (by omega), qx_un (by omega), qx_un (by omega), qx_un (by omega), qx_un (by omega)]
  exact if_pos (by omega)
theorem qsp_0 : qsp C i p x 0 0 12 = C 0 0 12 + 1 := by
  unfold qsp
  rw [qx_us]
  have : qbg (qlk C i 12) i p x 0 0 12 = C 0 0 12 := by
    unfold qbg
    rw [qx_un (by omega), qx_un (by omega), qx_un (by omega), qx_un (by omega), qx_un (by omega), qx_un (by omega), qx_un (by omega), qx_un (by omega)]
    exact if_neg (by omega)
  rw [this]
theorem qsp_i : qsp C i p x 7 i 2 = 1 ∧ qsp C i p x 7 i 3 = p ∧ qsp C i p x 8 i 0 = x ∧ qsp C i p x 7 i 4 = 1 ∧ qsp C i p x 7 i 5 = 0 ∧ qsp C i p x 7 i 6 = -1 ∧ qsp C i p x 7 i 7 = 0 ∧ qsp C i p x 7 i 9 = 0 := by
  unfold qsp qbg
  simp [qx_u]
theorem qsq_o {κ a b : Nat} (h1 : ¬ (a = 0 ∧ b = i ∧ (κ = 23 ∨ κ = 24 ∨ κ = 25 ∨ κ = 27 ∨ κ = 29 ∨ κ = 30 ∨ κ = 31 ∨ κ = 32))) (h2 : ¬ (κ = 26 ∧ a = 0 ∧ b = 24 * i)) (h3 : ¬ (κ = 20 ∧ a = 0 ∧ b = 24)) (h4 : ¬ (κ = 30 ∧ a = 0 ∧ b < 12)) : qsq N i p x κ a b = N κ a b := by
  have e : qsq N i p x κ a b = fj_u1 (qbn N i p x) 20 0 24 (qbn N i p x 20 0 24 + 1) κ a b := if_neg (by omega)
  rw [e]
  unfold qbn
  rw [qx_un (by omega), qx_un (by omega), qx_un (by omega), qx_un (by omega), qx_un (by omega), qx_un (by omega), qx_un (by omega), qx_un (by omega), qx_un (by omega), qx_un (by omega)]
theorem qsq_l {k : Nat} (hk : k < 12) (hki : k ≠ i) : qsq N i p x 30 0 k = N 30 0 k &&& qmk i := by
  have e : qsq N i p x 30 0 k = fj_u1 (qbn N i p x) 20 0 24 (qbn N i p x 20 0 24 + 1) 30 0 k &&& qmk i := if_pos (by omega)
  rw [e]
  unfold qbn
  rw [qx_un (by omega), qx_un (by omega), qx_un (by omega), qx_un (by omega), qx_un (by omega), qx_un (by omega), qx_un (by omega), qx_un (by omega), qx_un (by omega), qx_un (by omega)]
theorem qsq_0 : qsq N i p x 20 0 24 = N 20 0 24 + 1 := by
  have e : ∀ κ b, κ ≠ 30 → qsq N i p x κ 0 b = fj_u1 (qbn N i p x) 20 0 24 (qbn N i p x 20 0 24 + 1) κ 0 b := fun κ b h => if_neg (by omega)
  rw [e 20 24 (by omega), qx_us]
  have : qbn N i p x 20 0 24 = N 20 0 24 := by
    unfold qbn
    rw [qx_un (by omega), qx_un (by omega), qx_un (by omega), qx_un (by omega), qx_un (by omega), qx_un (by omega), qx_un (by omega), qx_un (by omega), qx_un (by omega)]
  rw [this]
theorem qsq_i (hi : i < 12) : qsq N i p x 23 0 i = 1 ∧ qsq N i p x 24 0 i = p ∧ qsq N i p x 25 0 i = 1 ∧ qsq N i p x 26 0 (24 * i) = x ∧ qsq N i p x 27 0 i = 0 ∧ qsq N i p x 29 0 i = -1 ∧ qsq N i p x 30 0 i = 0 ∧ qsq N i p x 31 0 i = 0 ∧ qsq N i p x 32 0 i = 0 := by
  have e : ∀ κ b, κ ≠ 30 → qsq N i p x κ 0 b = fj_u1 (qbn N i p x) 20 0 24 (qbn N i p x 20 0 24 + 1) κ 0 b := fun κ b h => if_neg (by omega)
  have e30 : qsq N i p x 30 0 i = fj_u1 (qbn N i p x) 20 0 24 (qbn N i p x 20 0 24 + 1) 30 0 i &&& qmk i := if_pos (by omega)
  rw [e 23 i (by omega), e 24 i (by omega), e 25 i (by omega), e 26 _ (by omega), e 27 i (by omega), e 29 i (by omega), e30, e 31 i (by omega), e 32 i (by omega)]
  unfold qbn
  simp [qx_u]
theorem qR_spawn {B : qB} (h : qR B C N) (hi : i < 12) : qR B (qsp C i p x) (qsq N i p x) := by
  obtain ⟨hS, hA, hT, hC⟩ := h
  refine ⟨?_, qA_cg hA (fun κ j _ _ => qsp_o (by omega) (by omega) (by omega)) (fun κ j _ => qsq_o (by omega) (by omega) (by omega) (by omega)), fun k hk => ?_, qC_all hC (fun κ i j _ _ => qsp_o (by omega) (by omega) (by omega)) (fun κ i j _ _ => qsq_o (by omega) (by omega) (by omega) (by omega))⟩
  · obtain ⟨⟨s1, s2, s3, s4, s5, s6, s7, s8⟩, s9, s10⟩ := hS
    have ec : ∀ j, j ≠ 12 → qsp C i p x 0 0 j = C 0 0 j := fun j hj => qsp_o (by omega) (by omega) (by omega)
    have en : ∀ j, j ≠ 24 → qsq N i p x 20 0 j = N 20 0 j := fun j hj => qsq_o (by omega) (by omega) (by omega) (by omega)
    unfold qS
    rw [qsp_0, qsq_0, ec 11 (by omega), ec 10 (by omega), ec 8 (by omega), ec 9 (by omega), ec 6 (by omega), ec 7 (by omega), ec 13 (by omega), en 18 (by omega), en 19 (by omega), en 20 (by omega), en 21 (by omega), en 22 (by omega), en 23 (by omega), en 25 (by omega)]
    exact ⟨⟨s1, s2, s3, s4, s5, s6, by rw [s7], s8⟩, s9, s10⟩
  · by_cases hki : k = i
    · subst hki
      obtain ⟨c2, c3, c8, c4, c5, c6, c7, c9⟩ := qsp_i (C := C) (i := k) (p := p) (x := x)
      obtain ⟨n23, n24, n25, n26, n27, n29, n30, n31, n32⟩ := qsq_i (N := N) (p := p) (x := x) hi
      unfold qT
      rw [c2, c3, c4, c5, c6, c7, c9, n23, n24, n25, n27, n29, n30, n31, n32]
      refine ⟨⟨rfl, rfl, rfl, rfl, rfl, rfl, (if_neg (by decide)).symm, rfl⟩, ⟨fun q => absurd q (by unfold qx_w; decide), fun q => absurd q (by decide)⟩, ⟨1, by omega, rfl, fun j hj => ?_⟩, ⟨0, by omega, rfl, fun j hj => absurd hj (Nat.not_lt_zero j)⟩, ⟨1, by omega, rfl⟩, Or.inl rfl, fun q => absurd q (by decide), fun q => absurd q (by decide), fun q => absurd q (by decide)⟩
      have hj : j = 0 := by omega
      subst hj
      rw [c8]
      exact n26
    · obtain ⟨⟨a1, a2, a3, a4, a5, a6, a7, a8⟩, b, ⟨d, d1, d2, d3⟩, ⟨r, r1, r2, r3⟩, e, f, g⟩ := hT k hk
      have ec : ∀ j, j ≠ 7 → qsp C i p x 7 k j = C 7 k j := fun j hj => qsp_o (by omega) (by omega) (by omega)
      have en : ∀ κ, 23 ≤ κ → κ ≠ 26 → κ ≠ 30 → qsq N i p x κ 0 k = N κ 0 k := fun κ _ _ _ => qsq_o (by omega) (by omega) (by omega) (by omega)
      unfold qT
      rw [qsp_l hk hki, qsq_l hk hki, ec 2 (by omega), ec 3 (by omega), ec 4 (by omega), ec 5 (by omega), ec 6 (by omega), ec 8 (by omega), ec 9 (by omega), ec 10 (by omega), ec 11 (by omega), en 23 (by omega) (by omega) (by omega), en 24 (by omega) (by omega) (by omega), en 25 (by omega) (by omega) (by omega), en 27 (by omega) (by omega) (by omega), en 29 (by omega) (by omega) (by omega), en 31 (by omega) (by omega) (by omega), en 32 (by omega) (by omega) (by omega), en 33 (by omega) (by omega) (by omega), en 34 (by omega) (by omega) (by omega)]
      exact ⟨⟨a1, a2, a3, a4, a5, by rw [a6], a7, a8⟩, b, ⟨d, d1, d2, fun j hj => by rw [qsq_o (by omega) (by omega) (by omega) (by omega), qsp_o (by omega) (by omega) (by omega)]; exact d3 j hj⟩, ⟨r, r1, r2, fun j hj => by rw [qsq_o (by omega) (by omega) (by omega) (by omega), qsp_o (by omega) (by omega) (by omega)]; exact r3 j hj⟩, e, f, g⟩
/-- nobody waits in vain behind a spawn -/
theorem qW_spawn (hW : qW C) (hi : i < 12) : qW (qsp C i p x) := by
  intro k hk q
  by_cases hki : k = i
  · subst hki
    have := qh_there_w q
    rw [qsp_i.1] at this
    exact absurd this (by unfold qx_w; decide)
  · refine hW k hk ?_
    have ec : ∀ j, j ≠ 7 → qsp C i p x 7 k j = C 7 k j := fun j hj => qsp_o (by omega) (by omega) (by omega)
    have e10 : ∀ c j, qsp C i p x 10 c j = C 10 c j := fun c j => qsp_o (by omega) (by omega) (by omega)
    have hl : ∀ y, qh_alive C y → qh_alive (qsp C i p x) y := by
      intro y hy
      refine ⟨hy.1, hy.2.1, ?_⟩
      by_cases hyi : y.toNatClampNeg = i
      · unfold qh_live
        rw [hyi, qsp_i.1]
        decide
      · unfold qh_live
        rw [qsp_o (by omega) (by omega) (by omega)]
        exact hy.2.2
    rcases q with ⟨h1, h2⟩ | ⟨h1, h2⟩ | ⟨h1, h2⟩ | ⟨h1, h2⟩
    · unfold qh_room at h2
      rw [ec 2 (by omega)] at h1
      rw [ec 10 (by omega), e10, e10] at h2
      exact Or.inl ⟨h1, h2⟩
    · unfold qh_ints at h2
      rw [ec 2 (by omega)] at h1
      rw [ec 10 (by omega), e10] at h2
      exact Or.inr (Or.inl ⟨h1, h2⟩)
    · unfold qh_ints at h2
      rw [ec 2 (by omega)] at h1
      rw [ec 10 (by omega), ec 11 (by omega), e10, e10] at h2
      exact Or.inr (Or.inr (Or.inl ⟨h1, h2⟩))
    · rw [ec 2 (by omega)] at h1
      rw [ec 10 (by omega)] at h2
      exact Or.inr (Or.inr (Or.inr ⟨h1, fun z => h2 (hl _ z)⟩))
theorem qwn_W (hW : qW C) : qwn C N 12 = N := by
  funext κ a b
  exact qwn_n (fun q => hW b q.2.2.1 q.2.2.2)
theorem qp_spawn (B : qB) (a x : Int32) : qP B B (dm_19 a x) (dm_85 a x) := by
  intro C N hR hW
  rcases qx_ix a (n := 512) (by decide) with h | h | ⟨j, hj, rfl⟩
  · exact ⟨-2, C, N, by simp only [dm_19, qg35_o (Or.inl h), Option.bind_some, ↓reduceIte, qz1], by simp only [dm_85, qg78_0_511_o (Or.inl h), Option.bind_some, ↓reduceIte, qz1], hR, hW⟩
  · exact ⟨-2, C, N, by simp only [dm_19, qg35_o (Or.inr h), Option.bind_some, ↓reduceIte, qz1], by simp only [dm_85, qg78_0_511_o (Or.inr h), Option.bind_some, ↓reduceIte, qz1], hR, hW⟩
  · have hv : ∀ j, j < 12 → ((¬ N 23 0 j < 1 ∧ ¬ 6 < N 23 0 j) ↔ qh_live C j) := fun j hj => by rw [(hR.2.2.1 j hj).1.1]; exact Iff.rfl
    rcases qx_least C with ha | ⟨i, hi, hl, ha⟩
    · refine ⟨-4, C, N, ?_, ?_, hR, hW⟩
      · simp only [dm_19, qg35_i hj, Option.bind_some, ↓reduceIte, qz1, qk_start_none ha]
      · simp only [dm_85, qg78_0_511_i (j := j) (by omega) (by omega), Option.bind_some, ↓reduceIte, qz1, qn_least_none (C := C) hv ha, if_neg (show ¬ (0 : Int32) ≤ -1 from by decide)]
    · have hR1 := qR_spawn (p := nI j) (x := x) hR hi
      have hW1 := qW_spawn (p := nI j) (x := x) hW hi
      refine ⟨nI i, _, _, ?_, ?_, hR1, hW1⟩
      · simp only [dm_19, qg35_i hj, Option.bind_some, ↓reduceIte, qz1, qk_start hi hl ha, if_neg (qx_m1 (n := i) (by omega))]
      · simp only [dm_85, qg78_0_511_i (j := j) (by omega) (by omega), Option.bind_some, ↓reduceIte, qz1, qn_least_some (C := C) hi hv hl ha, if_pos (qx_nn (n := i) (by omega)), qn_begin hi, qn_wake _ hR1.2.2.1 hR1.2.2.2, qwn_W hW1]
end QSP
