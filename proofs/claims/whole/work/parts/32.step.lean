/-! A STEP, OUT OF ONE OP OF THE RUNNING TASK -/
def qOP : Prop := ∀ (b : Nat) (C N : fj_N) (t : Nat), b ≤ 10000000 → qR (b, false) C N → N 20 0 27 = 0 → C 0 0 8 = nI t → t < 12 → C 7 t 2 = 1 → ∃ (C' N1 N2 N' : fj_N) (f : Int32), (∀ N0 : fj_N, dm_52 (C, N0) = some (C', N0)) ∧ (∀ C0 : fj_N, dm_102 (nI t) (C0, N) = some (f, (C0, N1))) ∧ ((f ≤ 0 ∧ N2 = N1) ∨ (¬ f ≤ 0 ∧ ∀ C0 : fj_N, dm_94 (N1 20 0 20) f 1 (C0, N1) = some (C0, N2))) ∧ (∀ C0 : fj_N, dm_95 (C0, N2) = some (C0, N')) ∧ qR (b + 1, false) C' N' ∧ C' 0 0 7 = C 0 0 7
theorem qR_fl {b : Nat} {C N : fj_N} (h : qR (b, false) C N) (e : N 20 0 23 = C 0 0 7) : qR (b, true) C N := by
  obtain ⟨⟨⟨s1, s2, s3, s4, s5, s6, s7, s8⟩, s9, s10⟩, h2⟩ := h
  exact ⟨⟨⟨s1, s2, s3, s4, s5, fun _ => e, s7, s8⟩, s9, s10⟩, h2⟩
theorem qR_un {b : Nat} {C N : fj_N} (h : qR (b, true) C N) : qR (b, false) C N := by
  obtain ⟨⟨⟨s1, s2, s3, s4, s5, s6, s7, s8⟩, s9, s10⟩, h2⟩ := h
  exact ⟨⟨⟨s1, s2, s3, s4, s5, (fun q => by cases q), s7, s8⟩, s9, s10⟩, h2⟩
theorem qR_mono {b b' : Nat} {l : Bool} {C N : fj_N} (h : qR (b, l) C N) (hb : b ≤ b') : qR (b', l) C N := by
  obtain ⟨⟨s, s9, p, p1, p2⟩, h2⟩ := h
  exact ⟨⟨s, s9, p, Nat.le_trans p1 hb, p2⟩, h2⟩
theorem qS_x {b : Nat} {C N : fj_N} {v : Int32} (h : qS (b, false) C N) : qS (b, false) C (fj_u1 N 20 0 23 v) := by
  obtain ⟨⟨s1, s2, s3, s4, s5, s6, s7, s8⟩, s9, s10⟩ := h
  have en : ∀ j, j ≠ 23 → fj_u1 N 20 0 23 v 20 0 j = N 20 0 j := fun j h => qx_un (by omega)
  refine ⟨⟨?_, ?_, ?_, ?_, ?_, (fun q => by cases q), ?_, ?_⟩, s9, s10⟩
  · rw [en 18 (by omega)]; exact s1
  · rw [en 19 (by omega)]; exact s2
  · rw [en 20 (by omega)]; exact s3
  · rw [en 21 (by omega)]; exact s4
  · rw [en 22 (by omega)]; exact s5
  · rw [en 24 (by omega)]; exact s7
  · rw [en 25 (by omega)]; exact s8
/-- scalars alone change -/
theorem qR_sc {B B' : qB} {C N C' N' : fj_N} (h : qR B C N) (hC : ∀ κ i j, κ ≠ 0 → C' κ i j = C κ i j) (hN : ∀ κ i j, κ ≠ 20 → N' κ i j = N κ i j) (hS : qS B' C' N') : qR B' C' N' := by
  obtain ⟨-, hA, hT, hCh⟩ := h
  exact ⟨hS, qA_cg hA (fun κ j _ _ => hC _ _ _ (by omega)) (fun κ j _ => hN _ _ _ (by omega)), qT_all hT (fun κ i j _ _ => hC _ _ _ (by omega)) (fun κ i j _ _ => hN _ _ _ (by omega)), qC_all hCh (fun κ i j _ _ => hC _ _ _ (by omega)) (fun κ i j _ _ => hN _ _ _ (by omega))⟩
theorem qwk_time (C : fj_N) (v : Int32) : fj_u1 (qwk C 12) 0 0 10 v = qwk (fj_u1 C 0 0 10 v) 12 := by
  funext κ i j
  rw [qx_u]
  by_cases h : κ = 0 ∧ i = 0 ∧ j = 10
  · rw [if_pos h, qwk_n (fun q => by omega), qx_u, if_pos h]
  · rw [if_neg h]
    have e := qh_there_cg (C := C) (C' := fj_u1 C 0 0 10 v) (i := i) (fun i j => qx_un (by omega)) (fun c j => qx_un (by omega))
    by_cases h2 : κ = 7 ∧ j = 2 ∧ i < 12 ∧ qh_there C i
    · obtain ⟨rfl, rfl, h3, h4⟩ := h2
      rw [qwk_p h3 h4, qwk_p h3 (e.mpr h4)]
    · rw [qwk_n h2, qwk_n (fun q => h2 ⟨q.1, q.2.1, q.2.2.1, e.mp q.2.2.2⟩), qx_un h]
/-- the class's frame of an op: latest, left before; waking, time behind -/
theorem qk_ran {C2 C' N : fj_N} (hd : dm_52 (fj_u1 (fj_u1 C2 0 0 7 0) 0 0 9 (C2 0 0 9 - 1), N) = some (C', N)) (h7 : C' 0 0 7 = 0) : dm_49_20 0 (C2, N) = some (0, (qwk (fj_u1 C' 0 0 10 (C' 0 0 10 + 1)) 12, N)) := by
  have e9 : fj_u1 C2 0 0 7 0 0 0 9 = C2 0 0 9 := qx_un (by omega)
  have w7 : qwk C' 12 0 0 7 = 0 := by rw [qwk_n (fun q => by omega)]; exact h7
  have w10 : qwk C' 12 0 0 10 = C' 0 0 10 := qwk_n (fun q => by omega)
  have e7 : qwk (fj_u1 C' 0 0 10 (C' 0 0 10 + 1)) 12 0 0 7 = 0 := by rw [qwk_n (fun q => by omega), qx_un (by omega)]; exact h7
  simp only [dm_49_20, qx_us, ↓reduceIte, e9, hd, Option.bind_some, qk_wake, dm_49_48, w7, dm_49_63, w10, qwk_time, e7]
/-- the reference's frame of an op -/
theorem qn_ran {C' N N1 N2 N' : fj_N} {f a1 a2 a3 s0 : Int32} {t : Nat} (e20 : fj_u1 (fj_u1 (fj_u1 (fj_u1 N 20 0 21 s0) 20 0 20 a3) 20 0 21 (s0 - 1)) 20 0 27 0 20 0 20 = nI t)
    (hw : dm_102 (nI t) (C', fj_u1 (fj_u1 (fj_u1 (fj_u1 N 20 0 21 s0) 20 0 20 a3) 20 0 21 (s0 - 1)) 20 0 27 0) = some (f, (C', N1))) (hf : (f ≤ 0 ∧ N2 = N1) ∨ (¬ f ≤ 0 ∧ dm_94 (N1 20 0 20) f 1 (C', N1) = some (C', N2))) (h95 : dm_95 (C', N2) = some (C', N'))
    {D : fj_N} (hT : ∀ i, i < 12 → qT D (fj_u1 N' 20 0 19 (N' 20 0 19 + 1)) i) (hC : ∀ c, c < 6 → qC D (fj_u1 N' 20 0 19 (N' 20 0 19 + 1)) c) :
    dm_97_209 a1 a2 a3 s0 (C', N) = some (0, (C', fj_u1 (qwn D (fj_u1 N' 20 0 19 (N' 20 0 19 + 1)) 12) 20 0 23 0)) := by
  have e21 : fj_u1 (fj_u1 N 20 0 21 s0) 20 0 20 a3 20 0 21 = s0 := by rw [qx_un (by omega), qx_us]
  rcases hf with ⟨h1, rfl⟩ | ⟨h1, h2⟩
  · simp only [dm_97_209, e21, e20, hw, Option.bind_some, if_pos h1, dm_97_258, h95, qn_wake _ hT hC]
  · simp only [dm_97_209, e21, e20, hw, Option.bind_some, if_neg h1, h2, dm_97_258, h95, qn_wake _ hT hC]
/-- the relation when the running task's turn is set and its quantum counted -/
theorem qR_turn {b : Nat} {C N C2 : fj_N} {u : Nat} {L : Int32} (hR : qR (b, true) C N) (hu : u < 12) (hC : ∀ κ i j, ¬ (κ = 0 ∧ i = 0 ∧ (j = 8 ∨ j = 9)) → C2 κ i j = C κ i j) (h8 : C2 0 0 8 = nI u) (h9 : C2 0 0 9 = L) :
    qR (b, false) (fj_u1 (fj_u1 C2 0 0 7 0) 0 0 9 (C2 0 0 9 - 1)) (fj_u1 (fj_u1 (fj_u1 (fj_u1 N 20 0 21 L) 20 0 20 (nI u)) 20 0 21 (L - 1)) 20 0 27 0) := by
  refine qR_sc hR (fun κ i j hk => ?_) (fun κ i j hk => ?_) ?_
  · rw [qx_un (by omega), qx_un (by omega)]; exact hC _ _ _ (by omega)
  · rw [qx_un (by omega), qx_un (by omega), qx_un (by omega), qx_un (by omega)]
  · obtain ⟨⟨s1, s2, s3, s4, s5, s6, s7, s8⟩, s9, p, p1, p2⟩ := hR.1
    have ec : ∀ j, j ≠ 7 → j ≠ 8 → j ≠ 9 → fj_u1 (fj_u1 C2 0 0 7 0) 0 0 9 (C2 0 0 9 - 1) 0 0 j = C 0 0 j := fun j h1 h2 h3 => by rw [qx_un (by omega), qx_un (by omega)]; exact hC _ _ _ (by omega)
    have en : ∀ j, j ≠ 20 → j ≠ 21 → j ≠ 27 → fj_u1 (fj_u1 (fj_u1 (fj_u1 N 20 0 21 L) 20 0 20 (nI u)) 20 0 21 (L - 1)) 20 0 27 0 20 0 j = N 20 0 j := fun j h1 h2 h3 => by rw [qx_un (by omega), qx_un (by omega), qx_un (by omega), qx_un (by omega)]
    have c8 : fj_u1 (fj_u1 C2 0 0 7 0) 0 0 9 (C2 0 0 9 - 1) 0 0 8 = nI u := by rw [qx_un (by omega), qx_un (by omega)]; exact h8
    have c9 : fj_u1 (fj_u1 C2 0 0 7 0) 0 0 9 (C2 0 0 9 - 1) 0 0 9 = L - 1 := by rw [qx_us, h9]
    have n20 : fj_u1 (fj_u1 (fj_u1 (fj_u1 N 20 0 21 L) 20 0 20 (nI u)) 20 0 21 (L - 1)) 20 0 27 0 20 0 20 = nI u := by rw [qx_un (by omega), qx_un (by omega), qx_us]
    have n21 : fj_u1 (fj_u1 (fj_u1 (fj_u1 N 20 0 21 L) 20 0 20 (nI u)) 20 0 21 (L - 1)) 20 0 27 0 20 0 21 = L - 1 := by rw [qx_un (by omega), qx_us]
    refine ⟨⟨?_, ?_, ?_, ?_, ?_, fun q => (by cases q), ?_, ?_⟩, ⟨u, hu, c8⟩, p, p1, ?_⟩
    · rw [en 18 (by omega) (by omega) (by omega), ec 11 (by omega) (by omega) (by omega)]; exact s1
    · rw [en 19 (by omega) (by omega) (by omega), ec 10 (by omega) (by omega) (by omega)]; exact s2
    · rw [n20, c8]
    · rw [n21, c9]
    · rw [en 22 (by omega) (by omega) (by omega), ec 6 (by omega) (by omega) (by omega)]; exact s5
    · rw [en 24 (by omega) (by omega) (by omega), ec 12 (by omega) (by omega) (by omega)]; exact s7
    · rw [en 25 (by omega) (by omega) (by omega), ec 13 (by omega) (by omega) (by omega)]; exact s8
    · rw [ec 11 (by omega) (by omega) (by omega)]; exact p2
/-- an op with its frame, both sides -/
theorem qx_ran (hop : qOP) {b : Nat} (hb : b ≤ 10000000) {C N C2 : fj_N} {u : Nat} {L : Int32} (hR : qR (b, true) C N) (hu : u < 12) (hC : ∀ κ i j, ¬ (κ = 0 ∧ i = 0 ∧ (j = 8 ∨ j = 9)) → C2 κ i j = C κ i j) (h8 : C2 0 0 8 = nI u) (h9 : C2 0 0 9 = L) (hs : C 7 u 2 = 1) (a1 a2 : Int32) :
    ∃ C3 N3 : fj_N, (∀ N0 : fj_N, dm_49_20 0 (C2, N0) = some (0, (C3, N0))) ∧ (∀ C0 : fj_N, dm_97_209 a1 a2 (nI u) L (C0, N) = some (0, (C0, N3))) ∧ qR (b + 1, true) C3 N3 ∧ qW C3 := by
  have hRt := qR_turn hR hu hC h8 h9
  have c8 : fj_u1 (fj_u1 C2 0 0 7 0) 0 0 9 (C2 0 0 9 - 1) 0 0 8 = nI u := by rw [qx_un (by omega), qx_un (by omega)]; exact h8
  have cs : fj_u1 (fj_u1 C2 0 0 7 0) 0 0 9 (C2 0 0 9 - 1) 7 u 2 = 1 := by rw [qx_un (by omega), qx_un (by omega), hC _ _ _ (by omega)]; exact hs
  have c7 : fj_u1 (fj_u1 C2 0 0 7 0) 0 0 9 (C2 0 0 9 - 1) 0 0 7 = 0 := by rw [qx_un (by omega), qx_us]
  obtain ⟨C', N1, N2, N', f, o1, o2, o3, o4, o5, o6⟩ := hop b _ _ u hb hRt (qx_us _ _ _ _ _) c8 hu cs
  rw [c7] at o6
  -- time
  have hR1 : qR (b + 1, false) (fj_u1 C' 0 0 10 (C' 0 0 10 + 1)) (fj_u1 N' 20 0 19 (N' 20 0 19 + 1)) := by
    refine qR_sc o5 (fun κ i j hk => qx_un (by omega)) (fun κ i j hk => qx_un (by omega)) ?_
    obtain ⟨⟨s1, s2, s3, s4, s5, s6, s7, s8⟩, s9, p, p1, p2⟩ := o5.1
    have ec : ∀ j, j ≠ 10 → fj_u1 C' 0 0 10 (C' 0 0 10 + 1) 0 0 j = C' 0 0 j := fun j h => qx_un (by omega)
    have en : ∀ j, j ≠ 19 → fj_u1 N' 20 0 19 (N' 20 0 19 + 1) 20 0 j = N' 20 0 j := fun j h => qx_un (by omega)
    refine ⟨⟨?_, ?_, ?_, ?_, ?_, (fun q => by cases q), ?_, ?_⟩, ?_, p, p1, ?_⟩
    · rw [en 18 (by omega), ec 11 (by omega)]; exact s1
    · rw [qx_us, qx_us, s2]
    · rw [en 20 (by omega), ec 8 (by omega)]; exact s3
    · rw [en 21 (by omega), ec 9 (by omega)]; exact s4
    · rw [en 22 (by omega), ec 6 (by omega)]; exact s5
    · rw [en 24 (by omega), ec 12 (by omega)]; exact s7
    · rw [en 25 (by omega), ec 13 (by omega)]; exact s8
    · obtain ⟨w, w1, w2⟩ := s9
      exact ⟨w, w1, by rw [ec 8 (by omega)]; exact w2⟩
    · rw [ec 11 (by omega)]; exact p2
  obtain ⟨hR2, hW2⟩ := qw_R hR1
  have e20 : fj_u1 (fj_u1 (fj_u1 (fj_u1 N 20 0 21 L) 20 0 20 (nI u)) 20 0 21 (L - 1)) 20 0 27 0 20 0 20 = nI u := by rw [qx_un (by omega), qx_un (by omega), qx_us]
  have hf : ∀ C0 : fj_N, (f ≤ 0 ∧ N2 = N1) ∨ (¬ f ≤ 0 ∧ dm_94 (N1 20 0 20) f 1 (C0, N1) = some (C0, N2)) := fun C0 => by
    rcases o3 with h | h
    · exact Or.inl h
    · exact Or.inr ⟨h.1, h.2 C0⟩
  refine ⟨qwk (fj_u1 C' 0 0 10 (C' 0 0 10 + 1)) 12, fj_u1 (qwn (fj_u1 C' 0 0 10 (C' 0 0 10 + 1)) (fj_u1 N' 20 0 19 (N' 20 0 19 + 1)) 12) 20 0 23 0, fun N0 => qk_ran (o1 N0) o6, fun C0 => qn_ran e20 (o2 C0) (hf C0) (o4 C0) hR1.2.2.1 hR1.2.2.2, ?_, hW2⟩
  refine qR_fl (qR_sc hR2 (fun κ i j _ => rfl) (fun κ i j hk => qx_un (by omega)) ?_) ?_
  · exact qS_x hR2.1
  · rw [qx_us, qwk_n (fun q => by omega), qx_un (by omega)]
    exact o6.symm
