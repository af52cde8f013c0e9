/-! OPS OF THE TASK ITSELF -/
section QO4
variable {b : Nat} {C N : fj_N} {t d r : Nat} {a pl : Int32}
theorem qo_28 (hX : qX b C N t d r) : qY b C N t 28 a (qg t pl 28 a) := by
  by_cases hk : d < 1
  · exact Or.inl ⟨2, by decide, by decide, qk_few (o := 28) (k := 1) (fun _ => rfl) (fun _ => rfl) (by omega) hX hk, qn_few (o := 28) (k := 1) (fun _ => rfl) (by omega) hX hk⟩
  obtain ⟨e, rfl⟩ : ∃ e, d = e + 1 := ⟨d - 1, by omega⟩
  have hX0 := hX
  obtain ⟨⟨hb, hR, h27, h8, ht, hs⟩, ⟨h4, hd, h5, hr⟩, h24, h25, h27r, hst, hrt⟩ := hX
  have c4 : (fj_u1 C 7 t 3 (C 7 t 3 + 1)) 7 t 4 = nI (e + 1) := by rw [qx_un (by omega)]; exact h4
  have e25 : (fj_u1 N 24 0 t (C 7 t 3 + 1)) 25 0 t = nI (e + 1) := by rw [qx_un (by omega)]; exact h25
  have c8 : ∀ j, (fj_u1 C 7 t 3 (C 7 t 3 + 1)) 8 t j = C 8 t j := fun j => qx_un (by omega)
  have h55 := qk_55 (o := 28) (k := 1) (fun _ => rfl) (by decide) (by decide) hX0 (by omega)
  have c45 : ∀ N0 : fj_N, dm_54 t 28 a (C, N0) = dm_54_45 t 28 a (C 8 t e) (C, N0) := fun N0 => by
    have h := qk_54 (o := 28) (a := a) (fun _ => rfl) h55 (by decide) hX0 N0
    rw [qtop_s] at h
    exact h
  have n102 := qn_go1 (o := 28) (a := a) (pl := pl) (fun _ => rfl) (by decide) hX0
  rcases qx_ix a (n := 512) (by decide) with h | h | ⟨j, hj, rfl⟩
  · exact Or.inl ⟨5, by decide, by decide, fun N0 => by rw [c45]; exact qk_45_5 (fun N0 => by rw [show dm_56 28 a (C 8 t e) (C, N0) = (dm_35 a (C, N0)).bind (fun q2 => if q2.1 = 0 then some (1, q2.2) else some (0, q2.2)) from rfl, qg35_o (Or.inl h)]; rfl) N0, fun C0 => by rw [n102]; simp (decide := true) only [dm_102_117, dm_102_145, dm_102_164, dm_102_181, dm_102_193, dm_102_211, dm_102_215, dm_102_216, dm_102_245, dm_102_267, dm_102_271, dm_102_272, dm_102_298, dm_102_306, dm_102_341, dm_102_358, dm_102_388, dm_102_411, dm_78, dm_87, ↓reduceIte, Option.bind_some, qz1, dm_109, dm_109_24, dm_109_29, dm_109_47, dm_109_66, dm_109_87, qx_cl (j := t) (show t ≤ 1000000 by omega), qx_neg (n := t) (show t ≤ 100000000 by omega), Nat.not_le.mpr ht, or_self, h]⟩
  · have h1 : (511 : Int32) < a := (qx_pred (n := 512) (by omega) (by omega)).mpr h.2
    exact Or.inl ⟨5, by decide, by decide, fun N0 => by rw [c45]; exact qk_45_5 (fun N0 => by rw [show dm_56 28 a (C 8 t e) (C, N0) = (dm_35 a (C, N0)).bind (fun q2 => if q2.1 = 0 then some (1, q2.2) else some (0, q2.2)) from rfl, qg35_o (Or.inr h)]; rfl) N0, fun C0 => by rw [n102]; simp (decide := true) only [dm_102_117, dm_102_145, dm_102_164, dm_102_181, dm_102_193, dm_102_211, dm_102_215, dm_102_216, dm_102_245, dm_102_267, dm_102_271, dm_102_272, dm_102_298, dm_102_306, dm_102_341, dm_102_358, dm_102_388, dm_102_411, dm_78, dm_87, ↓reduceIte, Option.bind_some, qz1, dm_109, dm_109_24, dm_109_29, dm_109_47, dm_109_66, dm_109_87, qx_cl (j := t) (show t ≤ 1000000 by omega), qx_neg (n := t) (show t ≤ 100000000 by omega), Nat.not_le.mpr ht, or_self, h.1, h1]⟩
  have ha0 : ¬ nI j < 0 := qx_neg (by omega)
  have ha1 : ¬ (511 : Int32) < nI j := fun q => by
    have := (qx_lt (a := 511) (b := j) (by omega) (by omega)).mp q
    omega
  have c0 : ∀ N0 : fj_N, dm_54 t 28 (nI j) (C, N0) = some (0, (C, N0)) := fun N0 => by
    rw [c45]
    exact qk_45 (fun N0 => by rw [show dm_56 28 (nI j) (C 8 t e) (C, N0) = (dm_35 (nI j) (C, N0)).bind (fun q2 => if q2.1 = 0 then some (1, q2.2) else some (0, q2.2)) from rfl, qg35_i hj]; rfl) (fun _ => rfl) (by decide) (qk_over0 (o := 28) (k := 1) (g := 1) (fun _ => rfl) (by decide) (fun _ => rfl) hX0 (by omega) (by omega) (by omega)) (Or.inl ⟨rfl, rfl⟩) N0
  have hR2 := qR_pop (d0 := e + 1) (e0 := e) c4 hd (by omega) (qR_place (v := C 7 t 3 + 1) hR ht) ht
  have hv : ∀ j, j < 12 → ((¬ (fj_u1 (fj_u1 N 24 0 t (C 7 t 3 + 1)) 25 0 t (nI e)) 23 0 j < 1 ∧ ¬ 6 < (fj_u1 (fj_u1 N 24 0 t (C 7 t 3 + 1)) 25 0 t (nI e)) 23 0 j) ↔ qh_live (fj_u1 (fj_u1 C 7 t 3 (C 7 t 3 + 1)) 7 t 4 (nI e)) j) := fun j hj => by rw [(hR2.2.2.1 j hj).1.1]; exact Iff.rfl
  have hs2 : (fj_u1 (fj_u1 C 7 t 3 (C 7 t 3 + 1)) 7 t 4 (nI e)) 7 t 2 = 1 := by rw [qx_un (by omega), qx_un (by omega)]; exact hs
  rcases qx_least (fj_u1 (fj_u1 C 7 t 3 (C 7 t 3 + 1)) 7 t 4 (nI e)) with hal | ⟨i, hi, hl, hal⟩
  · refine Or.inr (Or.inr ⟨C, _, _, _, c0, fun N0 => rfl, fun N0 => ?_, fun C0 => ?_, fun C0 => qn_spread0 (by (repeat rw [qx_un (by omega)]); exact h27) C0, qR_mono (qR_push (v := -1) (d0 := e) (qx_us _ _ _ _ _) (by omega) (hR2) ht) (Nat.le_succ b), by repeat rw [qx_un (by omega)]⟩)
    · have p1 := qk_pop (M := (fj_u1 C 7 t 3 (C 7 t 3 + 1), N0)) (i := t) (d := e) c4 (by omega)
      have p2 := qk_push (M := (fj_u1 (fj_u1 C 7 t 3 (C 7 t 3 + 1)) 7 t 4 (nI e), N0)) (i := t) (d := e) (x := -1) (qx_us _ _ _ _ _) (by omega)
      have p3 := qk_start_none (N := N0) (p := nI j) (x := C 8 t e) hal
      simp (decide := true) only [dm_64, dm_3, dm_3_12, ↓reduceIte, Option.bind_some, p1, c8, p3, p2]
    · have q1 := qn_least_none (C0 := C0) hv hal
      rw [n102]
      simp (decide := true) only [dm_102_117, dm_102_145, dm_102_164, dm_102_181, dm_102_193, dm_102_211, dm_102_215, dm_102_216, dm_102_245, dm_102_267, dm_102_271, dm_102_272, dm_102_298, dm_102_306, dm_102_341, dm_102_358, dm_102_388, dm_102_411, dm_78, dm_87, ↓reduceIte, Option.bind_some, qz1, dm_109, dm_109_24, dm_109_29, dm_109_47, dm_109_66, dm_109_87, qx_cl (j := t) (show t ≤ 1000000 by omega), qx_neg (n := t) (show t ≤ 100000000 by omega), Nat.not_le.mpr ht, or_self, ha0, ha1, qn_114 (o := 28) (k := 1) (e := e) (fun _ => rfl) hX0, dm_111, q1, dm_111_110, qn_gives0 (C0 := C0) (N1 := fj_u1 (fj_u1 N 24 0 t (C 7 t 3 + 1)) 25 0 t (nI e)) (e := e) (v := -1) ht (by omega) (qx_us _ _ _ _ _)]
  · have hti : t ≠ i := fun q => hl (by rw [← q]; unfold qh_live; rw [hs2]; decide)
    have c4s : (qsp (fj_u1 (fj_u1 C 7 t 3 (C 7 t 3 + 1)) 7 t 4 (nI e)) i (nI j) (C 8 t e)) 7 t 4 = nI e := by rw [qsp_o (by omega) (by omega) (by omega)]; exact qx_us _ _ _ _ _
    have e25s : (qsq (fj_u1 (fj_u1 N 24 0 t (C 7 t 3 + 1)) 25 0 t (nI e)) i (nI j) (C 8 t e)) 25 0 t = nI e := by rw [qsq_o (by omega) (by omega) (by omega) (by omega)]; exact qx_us _ _ _ _ _
    refine Or.inr (Or.inr ⟨C, _, _, _, c0, fun N0 => rfl, fun N0 => ?_, fun C0 => ?_, fun C0 => qn_spread0 (by rw [qx_un (by omega), qx_un (by omega), qsq_o (by omega) (by omega) (by omega) (by omega), qx_un (by omega), qx_un (by omega)]; exact h27) C0, qR_mono (qR_push (v := nI i) (d0 := e) c4s (by omega) (qR_spawn (p := nI j) (x := C 8 t e) hR2 hi) ht) (Nat.le_succ b), by rw [qx_un (by omega), qx_un (by omega), qsp_o (by omega) (by omega) (by omega), qx_un (by omega), qx_un (by omega)]⟩)
    · have p1 := qk_pop (M := (fj_u1 C 7 t 3 (C 7 t 3 + 1), N0)) (i := t) (d := e) c4 (by omega)
      have p2 := qk_push (M := ((qsp (fj_u1 (fj_u1 C 7 t 3 (C 7 t 3 + 1)) 7 t 4 (nI e)) i (nI j) (C 8 t e)), N0)) (i := t) (d := e) (x := nI i) c4s (by omega)
      have p3 := qk_start (N := N0) (p := nI j) (x := C 8 t e) hi hl hal
      simp (decide := true) only [dm_64, dm_3, dm_3_12, ↓reduceIte, Option.bind_some, p1, c8, p3, p2]
    · have q1 := qn_least_some (C0 := C0) hi hv hl hal
      have q2 := qn_begin (C0 := C0) (N := fj_u1 (fj_u1 N 24 0 t (C 7 t 3 + 1)) 25 0 t (nI e)) (p := nI j) (x := C 8 t e) hi
      rw [n102]
      simp (decide := true) only [dm_102_117, dm_102_145, dm_102_164, dm_102_181, dm_102_193, dm_102_211, dm_102_215, dm_102_216, dm_102_245, dm_102_267, dm_102_271, dm_102_272, dm_102_298, dm_102_306, dm_102_341, dm_102_358, dm_102_388, dm_102_411, dm_78, dm_87, ↓reduceIte, Option.bind_some, qz1, dm_109, dm_109_24, dm_109_29, dm_109_47, dm_109_66, dm_109_87, qx_cl (j := t) (show t ≤ 1000000 by omega), qx_neg (n := t) (show t ≤ 100000000 by omega), Nat.not_le.mpr ht, or_self, ha0, ha1, qn_114 (o := 28) (k := 1) (e := e) (fun _ => rfl) hX0, dm_111, q1, qx_neg (n := i) (show i ≤ 100000000 by omega), q2, dm_111_110, qn_gives0 (C0 := C0) (N1 := (qsq (fj_u1 (fj_u1 N 24 0 t (C 7 t 3 + 1)) 25 0 t (nI e)) i (nI j) (C 8 t e))) (e := e) (v := nI i) ht (by omega) e25s]
theorem qo_29 (hX : qX b C N t d r) : qY b C N t 29 a (qg t pl 29 a) := by
  have hX0 := hX
  obtain ⟨⟨hb, hR, h27, h8, ht, hs⟩, ⟨h4, hd, h5, hr⟩, h24, h25, h27r, hst, hrt⟩ := hX
  have c4 : (fj_u1 C 7 t 3 (C 7 t 3 + 1)) 7 t 4 = nI d := by rw [qx_un (by omega)]; exact h4
  have e25 : (fj_u1 N 24 0 t (C 7 t 3 + 1)) 25 0 t = nI d := by rw [qx_un (by omega)]; exact h25
  have c8 : ∀ j, (fj_u1 C 7 t 3 (C 7 t 3 + 1)) 8 t j = C 8 t j := fun j => qx_un (by omega)
  have h55 := qk_55 (o := 29) (k := 0) (fun _ => rfl) (by decide) (by decide) hX0 (by omega)
  have c45 : ∀ N0 : fj_N, dm_54 t 29 a (C, N0) = dm_54_45 t 29 a (qtop C t d) (C, N0) := fun N0 => by
    have h := qk_54 (o := 29) (a := a) (fun _ => rfl) h55 (by decide) hX0 N0
    exact h
  have n102 := qn_go0 (o := 29) (a := a) (pl := pl) (fun _ => rfl) (by decide) hX0
  have c0 : ∀ N0 : fj_N, dm_54 t 29 a (C, N0) = some (0, (C, N0)) := fun N0 => by
    rw [c45]
    exact qk_45 (fun _ => rfl) (fun _ => rfl) (by decide) (qk_over0 (o := 29) (k := 0) (g := 0) (fun _ => rfl) (by decide) (fun _ => rfl) hX0 (by omega) (by omega) (by omega)) (Or.inl ⟨rfl, rfl⟩) N0
  refine Or.inr (Or.inr ⟨C, _, _, _, c0, fun N0 => rfl, fun N0 => ?_, fun C0 => ?_, fun C0 => qn_spread0 (by (repeat rw [qx_un (by omega)]); exact h27) C0, qR_mono (qR_left (v := 0) (qR_place (v := C 7 t 3 + 1) hR ht)) (Nat.le_succ b), by repeat rw [qx_un (by omega)]⟩)
  · simp (decide := true) only [dm_64, dm_3, dm_3_12, ↓reduceIte, Option.bind_some, dm_74]
  · rw [n102]
    simp (decide := true) only [dm_102_117, dm_102_145, dm_102_164, dm_102_181, dm_102_193, dm_102_211, dm_102_215, dm_102_216, dm_102_245, dm_102_267, dm_102_271, dm_102_272, dm_102_298, dm_102_306, dm_102_341, dm_102_358, dm_102_388, dm_102_411, dm_78, dm_87, ↓reduceIte, Option.bind_some, qz1, dm_109, dm_109_24, dm_109_29, dm_109_47, dm_109_66, dm_109_87, qx_cl (j := t) (show t ≤ 1000000 by omega), qx_neg (n := t) (show t ≤ 100000000 by omega), Nat.not_le.mpr ht, or_self, qn_114z (o := 29) (fun _ => rfl) hX0, dm_111]
theorem qo_30 (hX : qX b C N t d r) : qY b C N t 30 a (qg t pl 30 a) := by
  by_cases hk : d < 1
  · exact Or.inl ⟨2, by decide, by decide, qk_few (o := 30) (k := 1) (fun _ => rfl) (fun _ => rfl) (by omega) hX hk, qn_few (o := 30) (k := 1) (fun _ => rfl) (by omega) hX hk⟩
  obtain ⟨e, rfl⟩ : ∃ e, d = e + 1 := ⟨d - 1, by omega⟩
  have hX0 := hX
  obtain ⟨⟨hb, hR, h27, h8, ht, hs⟩, ⟨h4, hd, h5, hr⟩, h24, h25, h27r, hst, hrt⟩ := hX
  have c4 : (fj_u1 C 7 t 3 (C 7 t 3 + 1)) 7 t 4 = nI (e + 1) := by rw [qx_un (by omega)]; exact h4
  have e25 : (fj_u1 N 24 0 t (C 7 t 3 + 1)) 25 0 t = nI (e + 1) := by rw [qx_un (by omega)]; exact h25
  have c8 : ∀ j, (fj_u1 C 7 t 3 (C 7 t 3 + 1)) 8 t j = C 8 t j := fun j => qx_un (by omega)
  have h55 := qk_55 (o := 30) (k := 1) (fun _ => rfl) (by decide) (by decide) hX0 (by omega)
  have c45 : ∀ N0 : fj_N, dm_54 t 30 a (C, N0) = dm_54_45 t 30 a (C 8 t e) (C, N0) := fun N0 => by
    have h := qk_54 (o := 30) (a := a) (fun _ => rfl) h55 (by decide) hX0 N0
    rw [qtop_s] at h
    exact h
  have n102 := qn_go1 (o := 30) (a := a) (pl := pl) (fun _ => rfl) (by decide) hX0
  have c0 : ∀ N0 : fj_N, dm_54 t 30 a (C, N0) = some (0, (C, N0)) := fun N0 => by
    rw [c45]
    exact qk_45 (fun _ => rfl) (fun _ => rfl) (by decide) (qk_over0 (o := 30) (k := 1) (g := 0) (fun _ => rfl) (by decide) (fun _ => rfl) hX0 (by omega) (by omega) (by omega)) (Or.inl ⟨rfl, rfl⟩) N0
  refine Or.inr (Or.inr ⟨C, _, _, _, c0, fun N0 => rfl, fun N0 => ?_, fun C0 => ?_, fun C0 => qn_spread0 (by (repeat rw [qx_un (by omega)]); exact h27) C0, qR_mono (qR_end (v := C 8 t e) (by rw [qx_un (by omega), qx_un (by omega)]; exact hs) (qR_pop (d0 := e + 1) (e0 := e) c4 hd (by omega) (qR_place (v := C 7 t 3 + 1) hR ht) ht) ht) (Nat.le_succ b), by repeat rw [qx_un (by omega)]⟩)
  · have p1 := qk_pop (M := (fj_u1 C 7 t 3 (C 7 t 3 + 1), N0)) (i := t) (d := e) c4 (by omega)
    simp (decide := true) only [dm_64, dm_3, dm_3_12, ↓reduceIte, Option.bind_some, dm_74, p1, c8, dm_9]
  · rw [n102]
    simp (decide := true) only [dm_102_117, dm_102_145, dm_102_164, dm_102_181, dm_102_193, dm_102_211, dm_102_215, dm_102_216, dm_102_245, dm_102_267, dm_102_271, dm_102_272, dm_102_298, dm_102_306, dm_102_341, dm_102_358, dm_102_388, dm_102_411, dm_78, dm_87, ↓reduceIte, Option.bind_some, qz1, dm_109, dm_109_24, dm_109_29, dm_109_47, dm_109_66, dm_109_87, qx_cl (j := t) (show t ≤ 1000000 by omega), qx_neg (n := t) (show t ≤ 100000000 by omega), Nat.not_le.mpr ht, or_self, qn_114 (o := 30) (k := 1) (e := e) (fun _ => rfl) hX0, dm_112]
theorem qx_lt1 (x : Int32) : x < 1 ↔ x ≤ 0 := by
  rw [Int32.lt_iff_toInt_lt, Int32.le_iff_toInt_le]
  have e1 : (1 : Int32).toInt = 1 := by decide
  have e0 : (0 : Int32).toInt = 0 := by decide
  omega
theorem qo_36 (hX : qX b C N t d r) : qY b C N t 36 a (qg t pl 36 a) := by
  by_cases hk : d < 1
  · exact Or.inl ⟨2, by decide, by decide, qk_few (o := 36) (k := 1) (fun _ => rfl) (fun _ => rfl) (by omega) hX hk, qn_few (o := 36) (k := 1) (fun _ => rfl) (by omega) hX hk⟩
  obtain ⟨e, rfl⟩ : ∃ e, d = e + 1 := ⟨d - 1, by omega⟩
  have hX0 := hX
  obtain ⟨⟨hb, hR, h27, h8, ht, hs⟩, ⟨h4, hd, h5, hr⟩, h24, h25, h27r, hst, hrt⟩ := hX
  have c4 : (fj_u1 C 7 t 3 (C 7 t 3 + 1)) 7 t 4 = nI (e + 1) := by rw [qx_un (by omega)]; exact h4
  have e25 : (fj_u1 N 24 0 t (C 7 t 3 + 1)) 25 0 t = nI (e + 1) := by rw [qx_un (by omega)]; exact h25
  have c8 : ∀ j, (fj_u1 C 7 t 3 (C 7 t 3 + 1)) 8 t j = C 8 t j := fun j => qx_un (by omega)
  have h55 := qk_55 (o := 36) (k := 1) (fun _ => rfl) (by decide) (by decide) hX0 (by omega)
  have c45 : ∀ N0 : fj_N, dm_54 t 36 a (C, N0) = dm_54_45 t 36 a (C 8 t e) (C, N0) := fun N0 => by
    have h := qk_54 (o := 36) (a := a) (fun _ => rfl) h55 (by decide) hX0 N0
    rw [qtop_s] at h
    exact h
  have n102 := qn_go1 (o := 36) (a := a) (pl := pl) (fun _ => rfl) (by decide) hX0
  have c0 : ∀ N0 : fj_N, dm_54 t 36 a (C, N0) = some (0, (C, N0)) := fun N0 => by
    rw [c45]
    exact qk_45 (fun _ => rfl) (fun _ => rfl) (by decide) (qk_over0 (o := 36) (k := 1) (g := 0) (fun _ => rfl) (by decide) (fun _ => rfl) hX0 (by omega) (by omega) (by omega)) (Or.inl ⟨rfl, rfl⟩) N0
  by_cases hx1 : C 8 t e < 1
  · have hx0 : C 8 t e ≤ 0 := (qx_lt1 _).mp hx1
    refine Or.inr (Or.inr ⟨C, _, _, _, c0, fun N0 => rfl, fun N0 => ?_, fun C0 => ?_, fun C0 => qn_spread0 (by (repeat rw [qx_un (by omega)]); exact h27) C0, qR_mono (qR_pop (d0 := e + 1) (e0 := e) c4 hd (by omega) (qR_place (v := C 7 t 3 + 1) hR ht) ht) (Nat.le_succ b), by repeat rw [qx_un (by omega)]⟩)
    · have p1 := qk_pop (M := (fj_u1 C 7 t 3 (C 7 t 3 + 1), N0)) (i := t) (d := e) c4 (by omega)
      simp (decide := true) only [dm_64, dm_3, dm_3_12, ↓reduceIte, Option.bind_some, dm_74, p1, c8, dm_76, if_pos hx1]
    · rw [n102]
      simp (decide := true) only [dm_102_117, dm_102_145, dm_102_164, dm_102_181, dm_102_193, dm_102_211, dm_102_215, dm_102_216, dm_102_245, dm_102_267, dm_102_271, dm_102_272, dm_102_298, dm_102_306, dm_102_341, dm_102_358, dm_102_388, dm_102_411, dm_78, dm_87, ↓reduceIte, Option.bind_some, qz1, dm_109, dm_109_24, dm_109_29, dm_109_47, dm_109_66, dm_109_87, qx_cl (j := t) (show t ≤ 1000000 by omega), qx_neg (n := t) (show t ≤ 100000000 by omega), Nat.not_le.mpr ht, or_self, qn_114 (o := 36) (k := 1) (e := e) (fun _ => rfl) hX0, dm_112, if_pos hx0]
  · have hx0 : ¬ C 8 t e ≤ 0 := fun q => hx1 ((qx_lt1 _).mpr q)
    have c10 : (fj_u1 (fj_u1 C 7 t 3 (C 7 t 3 + 1)) 7 t 4 (nI e)) 0 0 10 = C 0 0 10 := by rw [qx_un (by omega), qx_un (by omega)]
    have e19 : fj_u1 (fj_u1 (fj_u1 N 24 0 t (C 7 t 3 + 1)) 25 0 t (nI e)) 23 0 t 5 20 0 19 = C 0 0 10 := by rw [qx_un (by omega), qx_un (by omega), qx_un (by omega)]; exact hR.1.1.2.1
    refine Or.inr (Or.inr ⟨C, _, _, _, c0, fun N0 => rfl, fun N0 => ?_, fun C0 => ?_, fun C0 => qn_spread0 (by (repeat rw [qx_un (by omega)]); exact h27) C0, qR_mono (qR_sleep (v := (C 0 0 10 + 1 + (if 1000000 < C 8 t e then 1000000 else C 8 t e))) (by rw [qx_un (by omega), qx_un (by omega)]; exact hs) (qR_pop (d0 := e + 1) (e0 := e) c4 hd (by omega) (qR_place (v := C 7 t 3 + 1) hR ht) ht) ht) (Nat.le_succ b), by repeat rw [qx_un (by omega)]⟩)
    · have p1 := qk_pop (M := (fj_u1 C 7 t 3 (C 7 t 3 + 1), N0)) (i := t) (d := e) c4 (by omega)
      simp (decide := true) only [dm_64, dm_3, dm_3_12, ↓reduceIte, Option.bind_some, dm_74, p1, c8, dm_76, if_neg hx1, c10]
    · by_cases h6 : 1000000 ≤ C 8 t e
      · have hmin : (if 1000000 < C 8 t e then 1000000 else C 8 t e) = 1000000 := by
          by_cases h7 : 1000000 < C 8 t e
          · rw [if_pos h7]
          · rw [if_neg h7]; exact Int32.le_antisymm (qx_not_lt h7) h6
        rw [n102]
        simp (decide := true) only [dm_102_117, dm_102_145, dm_102_164, dm_102_181, dm_102_193, dm_102_211, dm_102_215, dm_102_216, dm_102_245, dm_102_267, dm_102_271, dm_102_272, dm_102_298, dm_102_306, dm_102_341, dm_102_358, dm_102_388, dm_102_411, dm_78, dm_87, ↓reduceIte, Option.bind_some, qz1, dm_109, dm_109_24, dm_109_29, dm_109_47, dm_109_66, dm_109_87, qx_cl (j := t) (show t ≤ 1000000 by omega), qx_neg (n := t) (show t ≤ 100000000 by omega), Nat.not_le.mpr ht, or_self, qn_114 (o := 36) (k := 1) (e := e) (fun _ => rfl) hX0, dm_112, dm_112_132, if_neg hx0, if_pos h6, e19, hmin]
      · have hmin : (if 1000000 < C 8 t e then 1000000 else C 8 t e) = C 8 t e := if_neg (qx_lt_not (Int32.le_of_lt (qx_not_le h6)))
        rw [n102]
        simp (decide := true) only [dm_102_117, dm_102_145, dm_102_164, dm_102_181, dm_102_193, dm_102_211, dm_102_215, dm_102_216, dm_102_245, dm_102_267, dm_102_271, dm_102_272, dm_102_298, dm_102_306, dm_102_341, dm_102_358, dm_102_388, dm_102_411, dm_78, dm_87, ↓reduceIte, Option.bind_some, qz1, dm_109, dm_109_24, dm_109_29, dm_109_47, dm_109_66, dm_109_87, qx_cl (j := t) (show t ≤ 1000000 by omega), qx_neg (n := t) (show t ≤ 100000000 by omega), Nat.not_le.mpr ht, or_self, qn_114 (o := 36) (k := 1) (e := e) (fun _ => rfl) hX0, dm_112, dm_112_132, if_neg hx0, if_neg h6, e19, hmin]
theorem qo_37 (hX : qX b C N t d r) : qY b C N t 37 a (qg t pl 37 a) := by
  have hX0 := hX
  obtain ⟨⟨hb, hR, h27, h8, ht, hs⟩, ⟨h4, hd, h5, hr⟩, h24, h25, h27r, hst, hrt⟩ := hX
  have c4 : (fj_u1 C 7 t 3 (C 7 t 3 + 1)) 7 t 4 = nI d := by rw [qx_un (by omega)]; exact h4
  have e25 : (fj_u1 N 24 0 t (C 7 t 3 + 1)) 25 0 t = nI d := by rw [qx_un (by omega)]; exact h25
  have c8 : ∀ j, (fj_u1 C 7 t 3 (C 7 t 3 + 1)) 8 t j = C 8 t j := fun j => qx_un (by omega)
  have h55 := qk_55 (o := 37) (k := 0) (fun _ => rfl) (by decide) (by decide) hX0 (by omega)
  have c45 : ∀ N0 : fj_N, dm_54 t 37 a (C, N0) = dm_54_45 t 37 a (qtop C t d) (C, N0) := fun N0 => by
    have h := qk_54 (o := 37) (a := a) (fun _ => rfl) h55 (by decide) hX0 N0
    exact h
  have n102 := qn_go0 (o := 37) (a := a) (pl := pl) (fun _ => rfl) (by decide) hX0
  by_cases hg : d < 24
  · have c0 : ∀ N0 : fj_N, dm_54 t 37 a (C, N0) = some (0, (C, N0)) := fun N0 => by
      rw [c45]
      exact qk_45 (fun _ => rfl) (fun _ => rfl) (by decide) (qk_over0 (o := 37) (k := 0) (g := 1) (fun _ => rfl) (by decide) (fun _ => rfl) hX0 (by omega) (by omega) (by omega)) (Or.inl ⟨rfl, rfl⟩) N0
    have hne24 : ¬ nI d = 24 := fun q => by
      have := (qx_eq (a := d) (b := 24) (by omega) (by omega)).mp q
      omega
    have cv : (fj_u1 C 7 t 3 (C 7 t 3 + 1)) 0 0 8 = nI t := by rw [qx_un (by omega)]; exact h8
    refine Or.inr (Or.inr ⟨C, _, _, _, c0, fun N0 => rfl, fun N0 => ?_, fun C0 => ?_, fun C0 => qn_spread0 (by (repeat rw [qx_un (by omega)]); exact h27) C0, qR_mono (qR_push (v := nI t) (d0 := d) c4 hg (qR_place (v := C 7 t 3 + 1) hR ht) ht) (Nat.le_succ b), by repeat rw [qx_un (by omega)]⟩)
    · have p1 := qk_push (M := (fj_u1 C 7 t 3 (C 7 t 3 + 1), N0)) (i := t) (d := d) (x := nI t) c4 hg
      simp (decide := true) only [dm_64, dm_3, dm_3_12, ↓reduceIte, Option.bind_some, dm_74, cv, p1]
    · rw [n102]
      simp (decide := true) only [dm_102_117, dm_102_145, dm_102_164, dm_102_181, dm_102_193, dm_102_211, dm_102_215, dm_102_216, dm_102_245, dm_102_267, dm_102_271, dm_102_272, dm_102_298, dm_102_306, dm_102_341, dm_102_358, dm_102_388, dm_102_411, dm_78, dm_87, ↓reduceIte, Option.bind_some, qz1, dm_109, dm_109_24, dm_109_29, dm_109_47, dm_109_66, dm_109_87, qx_cl (j := t) (show t ≤ 1000000 by omega), qx_neg (n := t) (show t ≤ 100000000 by omega), Nat.not_le.mpr ht, or_self, h25, if_neg hne24, qn_114z (o := 37) (fun _ => rfl) hX0, dm_112, qn_gives0 (C0 := C0) (N1 := fj_u1 N 24 0 t (C 7 t 3 + 1)) (e := d) (v := nI t) ht hg e25]
  · have hd24 : d = 24 := by omega
    have h24d : N 25 0 t = 24 := by rw [h25, hd24]; rfl
    refine Or.inl ⟨3, by decide, by decide, fun N0 => by rw [c45]; exact qk_45 (fun _ => rfl) (fun _ => rfl) (by decide) (qk_over1 (o := 37) (k := 0) (g := 1) (fun _ => rfl) (by decide) (fun _ => rfl) hX0 (by omega) (by omega) (by omega)) (Or.inr ⟨rfl, rfl⟩) N0, fun C0 => ?_⟩
    rw [n102]; simp (decide := true) only [dm_102_117, dm_102_145, dm_102_164, dm_102_181, dm_102_193, dm_102_211, dm_102_215, dm_102_216, dm_102_245, dm_102_267, dm_102_271, dm_102_272, dm_102_298, dm_102_306, dm_102_341, dm_102_358, dm_102_388, dm_102_411, dm_78, dm_87, ↓reduceIte, Option.bind_some, qz1, dm_109, dm_109_24, dm_109_29, dm_109_47, dm_109_66, dm_109_87, qx_cl (j := t) (show t ≤ 1000000 by omega), qx_neg (n := t) (show t ≤ 100000000 by omega), Nat.not_le.mpr ht, or_self, h24d]
theorem qo_38 (hX : qX b C N t d r) : qY b C N t 38 a (qg t pl 38 a) := by
  have hX0 := hX
  obtain ⟨⟨hb, hR, h27, h8, ht, hs⟩, ⟨h4, hd, h5, hr⟩, h24, h25, h27r, hst, hrt⟩ := hX
  have c4 : (fj_u1 C 7 t 3 (C 7 t 3 + 1)) 7 t 4 = nI d := by rw [qx_un (by omega)]; exact h4
  have e25 : (fj_u1 N 24 0 t (C 7 t 3 + 1)) 25 0 t = nI d := by rw [qx_un (by omega)]; exact h25
  have c8 : ∀ j, (fj_u1 C 7 t 3 (C 7 t 3 + 1)) 8 t j = C 8 t j := fun j => qx_un (by omega)
  have h55 := qk_55 (o := 38) (k := 0) (fun _ => rfl) (by decide) (by decide) hX0 (by omega)
  have c45 : ∀ N0 : fj_N, dm_54 t 38 a (C, N0) = dm_54_45 t 38 a (qtop C t d) (C, N0) := fun N0 => by
    have h := qk_54 (o := 38) (a := a) (fun _ => rfl) h55 (by decide) hX0 N0
    exact h
  have n102 := qn_go0 (o := 38) (a := a) (pl := pl) (fun _ => rfl) (by decide) hX0
  by_cases hg : d < 24
  · have c0 : ∀ N0 : fj_N, dm_54 t 38 a (C, N0) = some (0, (C, N0)) := fun N0 => by
      rw [c45]
      exact qk_45 (fun _ => rfl) (fun _ => rfl) (by decide) (qk_over0 (o := 38) (k := 0) (g := 1) (fun _ => rfl) (by decide) (fun _ => rfl) hX0 (by omega) (by omega) (by omega)) (Or.inl ⟨rfl, rfl⟩) N0
    have hne24 : ¬ nI d = 24 := fun q => by
      have := (qx_eq (a := d) (b := 24) (by omega) (by omega)).mp q
      omega
    have cv : (fj_u1 C 7 t 3 (C 7 t 3 + 1)) 0 0 10 = C 0 0 10 := qx_un (by omega)
    have ev : (fj_u1 N 24 0 t (C 7 t 3 + 1)) 20 0 19 = C 0 0 10 := by rw [qx_un (by omega)]; exact hR.1.1.2.1
    refine Or.inr (Or.inr ⟨C, _, _, _, c0, fun N0 => rfl, fun N0 => ?_, fun C0 => ?_, fun C0 => qn_spread0 (by (repeat rw [qx_un (by omega)]); exact h27) C0, qR_mono (qR_push (v := C 0 0 10) (d0 := d) c4 hg (qR_place (v := C 7 t 3 + 1) hR ht) ht) (Nat.le_succ b), by repeat rw [qx_un (by omega)]⟩)
    · have p1 := qk_push (M := (fj_u1 C 7 t 3 (C 7 t 3 + 1), N0)) (i := t) (d := d) (x := C 0 0 10) c4 hg
      simp (decide := true) only [dm_64, dm_3, dm_3_12, ↓reduceIte, Option.bind_some, dm_74, cv, p1]
    · rw [n102]
      simp (decide := true) only [dm_102_117, dm_102_145, dm_102_164, dm_102_181, dm_102_193, dm_102_211, dm_102_215, dm_102_216, dm_102_245, dm_102_267, dm_102_271, dm_102_272, dm_102_298, dm_102_306, dm_102_341, dm_102_358, dm_102_388, dm_102_411, dm_78, dm_87, ↓reduceIte, Option.bind_some, qz1, dm_109, dm_109_24, dm_109_29, dm_109_47, dm_109_66, dm_109_87, qx_cl (j := t) (show t ≤ 1000000 by omega), qx_neg (n := t) (show t ≤ 100000000 by omega), Nat.not_le.mpr ht, or_self, h25, if_neg hne24, qn_114z (o := 38) (fun _ => rfl) hX0, dm_112, ev, qn_gives0 (C0 := C0) (N1 := fj_u1 N 24 0 t (C 7 t 3 + 1)) (e := d) (v := C 0 0 10) ht hg e25]
  · have hd24 : d = 24 := by omega
    have h24d : N 25 0 t = 24 := by rw [h25, hd24]; rfl
    refine Or.inl ⟨3, by decide, by decide, fun N0 => by rw [c45]; exact qk_45 (fun _ => rfl) (fun _ => rfl) (by decide) (qk_over1 (o := 38) (k := 0) (g := 1) (fun _ => rfl) (by decide) (fun _ => rfl) hX0 (by omega) (by omega) (by omega)) (Or.inr ⟨rfl, rfl⟩) N0, fun C0 => ?_⟩
    rw [n102]; simp (decide := true) only [dm_102_117, dm_102_145, dm_102_164, dm_102_181, dm_102_193, dm_102_211, dm_102_215, dm_102_216, dm_102_245, dm_102_267, dm_102_271, dm_102_272, dm_102_298, dm_102_306, dm_102_341, dm_102_358, dm_102_388, dm_102_411, dm_78, dm_87, ↓reduceIte, Option.bind_some, qz1, dm_109, dm_109_24, dm_109_29, dm_109_47, dm_109_66, dm_109_87, qx_cl (j := t) (show t ≤ 1000000 by omega), qx_neg (n := t) (show t ≤ 100000000 by omega), Nat.not_le.mpr ht, or_self, h24d]
theorem qo_39 (hX : qX b C N t d r) : qY b C N t 39 a (qg t pl 39 a) := by
  by_cases hk : d < 1
  · exact Or.inl ⟨2, by decide, by decide, qk_few (o := 39) (k := 1) (fun _ => rfl) (fun _ => rfl) (by omega) hX hk, qn_few (o := 39) (k := 1) (fun _ => rfl) (by omega) hX hk⟩
  obtain ⟨e, rfl⟩ : ∃ e, d = e + 1 := ⟨d - 1, by omega⟩
  have hX0 := hX
  obtain ⟨⟨hb, hR, h27, h8, ht, hs⟩, ⟨h4, hd, h5, hr⟩, h24, h25, h27r, hst, hrt⟩ := hX
  have c4 : (fj_u1 C 7 t 3 (C 7 t 3 + 1)) 7 t 4 = nI (e + 1) := by rw [qx_un (by omega)]; exact h4
  have e25 : (fj_u1 N 24 0 t (C 7 t 3 + 1)) 25 0 t = nI (e + 1) := by rw [qx_un (by omega)]; exact h25
  have c8 : ∀ j, (fj_u1 C 7 t 3 (C 7 t 3 + 1)) 8 t j = C 8 t j := fun j => qx_un (by omega)
  have h55 := qk_55 (o := 39) (k := 1) (fun _ => rfl) (by decide) (by decide) hX0 (by omega)
  have c45 : ∀ N0 : fj_N, dm_54 t 39 a (C, N0) = dm_54_45 t 39 a (C 8 t e) (C, N0) := fun N0 => by
    have h := qk_54 (o := 39) (a := a) (fun _ => rfl) h55 (by decide) hX0 N0
    rw [qtop_s] at h
    exact h
  have n102 := qn_go1 (o := 39) (a := a) (pl := pl) (fun _ => rfl) (by decide) hX0
  have c0 : ∀ N0 : fj_N, dm_54 t 39 a (C, N0) = some (0, (C, N0)) := fun N0 => by
    rw [c45]
    exact qk_45 (fun _ => rfl) (fun _ => rfl) (by decide) (qk_over0 (o := 39) (k := 1) (g := 0) (fun _ => rfl) (by decide) (fun _ => rfl) hX0 (by omega) (by omega) (by omega)) (Or.inl ⟨rfl, rfl⟩) N0
  obtain ⟨p, hp1, hp2⟩ := hR.1.2.2
  have hp1 : p ≤ b := hp1
  have cp : (fj_u1 (fj_u1 C 7 t 3 (C 7 t 3 + 1)) 7 t 4 (nI e)) 0 0 11 = nI p := by rw [qx_un (by omega), qx_un (by omega)]; exact hp2
  have ep : (fj_u1 (fj_u1 N 24 0 t (C 7 t 3 + 1)) 25 0 t (nI e)) 20 0 18 = nI p := by rw [qx_un (by omega), qx_un (by omega), hR.1.1.1]; exact hp2
  by_cases h3 : p < 300
  · have h3b : ¬ (300 : Int32) ≤ nI p := fun q => by
      have := (qx_le (a := 300) (b := p) (by omega) (by omega)).mp q
      omega
    have cp2 : (fj_u1 (fj_u1 (fj_u1 C 7 t 3 (C 7 t 3 + 1)) 7 t 4 (nI e)) 3 0 p (C 8 t e)) 0 0 11 = nI p := by rw [qx_un (by omega)]; exact cp
    have ep2 : (fj_u1 (fj_u1 (fj_u1 N 24 0 t (C 7 t 3 + 1)) 25 0 t (nI e)) 38 0 p (C 8 t e)) 20 0 18 = nI p := by rw [qx_un (by omega)]; exact ep
    refine Or.inr (Or.inr ⟨C, _, _, _, c0, fun N0 => rfl, fun N0 => ?_, fun C0 => ?_, fun C0 => qn_spread0 (by (repeat rw [qx_un (by omega)]); exact h27) C0, qR_print0 (p := p) (qR_rec (j := p) (v := C 8 t e) (qR_pop (d0 := e + 1) (e0 := e) c4 hd (by omega) (qR_place (v := C 7 t 3 + 1) hR ht) ht) h3) cp2 hp1, by repeat rw [qx_un (by omega)]⟩)
    · have p1 := qk_pop (M := (fj_u1 C 7 t 3 (C 7 t 3 + 1), N0)) (i := t) (d := e) c4 (by omega)
      simp (decide := true) only [dm_64, dm_3, dm_3_12, ↓reduceIte, Option.bind_some, dm_74, p1, c8, dm_77, cp, if_neg h3b, qx_cl (j := p) (show p ≤ 1000000 by omega), qx_neg (n := p) (show p ≤ 100000000 by omega), Nat.not_le.mpr h3, or_self, cp2, nI_1]
    · rw [n102]
      simp (decide := true) only [dm_102_117, dm_102_145, dm_102_164, dm_102_181, dm_102_193, dm_102_211, dm_102_215, dm_102_216, dm_102_245, dm_102_267, dm_102_271, dm_102_272, dm_102_298, dm_102_306, dm_102_341, dm_102_358, dm_102_388, dm_102_411, dm_78, dm_87, ↓reduceIte, Option.bind_some, qz1, dm_109, dm_109_24, dm_109_29, dm_109_47, dm_109_66, dm_109_87, qx_cl (j := t) (show t ≤ 1000000 by omega), qx_neg (n := t) (show t ≤ 100000000 by omega), Nat.not_le.mpr ht, or_self, qn_114 (o := 39) (k := 1) (e := e) (fun _ => rfl) hX0, dm_112, ep, if_neg h3b, qx_cl (j := p) (show p ≤ 1000000 by omega), qx_neg (n := p) (show p ≤ 100000000 by omega), Nat.not_le.mpr h3, or_self, ep2, nI_1]
  · have h3b : (300 : Int32) ≤ nI p := (qx_le (a := 300) (b := p) (by omega) (by omega)).mpr (by omega)
    refine Or.inr (Or.inr ⟨C, _, _, _, c0, fun N0 => rfl, fun N0 => ?_, fun C0 => ?_, fun C0 => qn_spread0 (by (repeat rw [qx_un (by omega)]); exact h27) C0, qR_print0 (p := p) (qR_pop (d0 := e + 1) (e0 := e) c4 hd (by omega) (qR_place (v := C 7 t 3 + 1) hR ht) ht) cp hp1, by repeat rw [qx_un (by omega)]⟩)
    · have p1 := qk_pop (M := (fj_u1 C 7 t 3 (C 7 t 3 + 1), N0)) (i := t) (d := e) c4 (by omega)
      simp (decide := true) only [dm_64, dm_3, dm_3_12, ↓reduceIte, Option.bind_some, dm_74, p1, c8, dm_77, cp, if_pos h3b, nI_1]
    · rw [n102]
      simp (decide := true) only [dm_102_117, dm_102_145, dm_102_164, dm_102_181, dm_102_193, dm_102_211, dm_102_215, dm_102_216, dm_102_245, dm_102_267, dm_102_271, dm_102_272, dm_102_298, dm_102_306, dm_102_341, dm_102_358, dm_102_388, dm_102_411, dm_78, dm_87, ↓reduceIte, Option.bind_some, qz1, dm_109, dm_109_24, dm_109_29, dm_109_47, dm_109_66, dm_109_87, qx_cl (j := t) (show t ≤ 1000000 by omega), qx_neg (n := t) (show t ≤ 100000000 by omega), Nat.not_le.mpr ht, or_self, qn_114 (o := 39) (k := 1) (e := e) (fun _ => rfl) hX0, dm_112, ep, if_pos h3b, nI_1]
theorem qo_42 (hX : qX b C N t d r) : qY b C N t 42 a (qg t pl 42 a) := by
  have hX0 := hX
  obtain ⟨⟨hb, hR, h27, h8, ht, hs⟩, ⟨h4, hd, h5, hr⟩, h24, h25, h27r, hst, hrt⟩ := hX
  have c4 : (fj_u1 C 7 t 3 (C 7 t 3 + 1)) 7 t 4 = nI d := by rw [qx_un (by omega)]; exact h4
  have e25 : (fj_u1 N 24 0 t (C 7 t 3 + 1)) 25 0 t = nI d := by rw [qx_un (by omega)]; exact h25
  have c8 : ∀ j, (fj_u1 C 7 t 3 (C 7 t 3 + 1)) 8 t j = C 8 t j := fun j => qx_un (by omega)
  have h55 := qk_55 (o := 42) (k := 0) (fun _ => rfl) (by decide) (by decide) hX0 (by omega)
  have c45 : ∀ N0 : fj_N, dm_54 t 42 a (C, N0) = dm_54_45 t 42 a (qtop C t d) (C, N0) := fun N0 => by
    have h := qk_54 (o := 42) (a := a) (fun _ => rfl) h55 (by decide) hX0 N0
    exact h
  have n102 := qn_go0 (o := 42) (a := a) (pl := pl) (fun _ => rfl) (by decide) hX0
  by_cases hm : a = -1
  · subst hm
    have c0 : ∀ N0 : fj_N, dm_54 t 42 (-1) (C, N0) = some (0, (C, N0)) := fun N0 => by
      rw [c45]
      exact qk_45 (fun _ => rfl) (fun _ => rfl) (by decide) (qk_over0 (o := 42) (k := 0) (g := 0) (fun _ => rfl) (by decide) (fun _ => rfl) hX0 (by omega) (by omega) (by omega)) (Or.inl ⟨rfl, rfl⟩) N0
    refine Or.inr (Or.inr ⟨C, _, _, _, c0, fun N0 => rfl, fun N0 => ?_, fun C0 => ?_, fun C0 => qn_spread0 (by (repeat rw [qx_un (by omega)]); exact h27) C0, qR_mono (qR_settrap (v := -1) (Or.inl rfl) (qR_place (v := C 7 t 3 + 1) hR ht) ht) (Nat.le_succ b), by repeat rw [qx_un (by omega)]⟩)
    · simp (decide := true) only [dm_64, dm_3, dm_3_12, ↓reduceIte, Option.bind_some, dm_74]
    · rw [n102]
      simp (decide := true) only [dm_102_117, dm_102_145, dm_102_164, dm_102_181, dm_102_193, dm_102_211, dm_102_215, dm_102_216, dm_102_245, dm_102_267, dm_102_271, dm_102_272, dm_102_298, dm_102_306, dm_102_341, dm_102_358, dm_102_388, dm_102_411, dm_78, dm_87, ↓reduceIte, Option.bind_some, qz1, dm_109, dm_109_24, dm_109_29, dm_109_47, dm_109_66, dm_109_87, qx_cl (j := t) (show t ≤ 1000000 by omega), qx_neg (n := t) (show t ≤ 100000000 by omega), Nat.not_le.mpr ht, or_self, qn_114z (o := 42) (fun _ => rfl) hX0, dm_112]
  rcases qx_ix a (n := 512) (by decide) with h | h | ⟨j, hj, rfl⟩
  · have h1 : a < -1 := by
      rw [Int32.lt_iff_toInt_lt] at h ⊢
      have e0 : (0 : Int32).toInt = 0 := by decide
      have e1 : (-1 : Int32).toInt = -1 := by decide
      have e2 : ¬ a.toInt = -1 := fun q => hm (Int32.toInt_inj.mp (q.trans e1.symm))
      omega
    exact Or.inl ⟨5, by decide, by decide, fun N0 => by rw [c45]; exact qk_45_5 (fun N0 => by rw [show dm_56 42 a (qtop C t d) (C, N0) = if a = -1 then some (0, (C, N0)) else (dm_35 a (C, N0)).bind (fun q2 => if q2.1 = 0 then some (1, q2.2) else some (0, q2.2)) from rfl, if_neg hm, qg35_o (Or.inl h)]; rfl) N0, fun C0 => by rw [n102]; simp (decide := true) only [dm_102_117, dm_102_145, dm_102_164, dm_102_181, dm_102_193, dm_102_211, dm_102_215, dm_102_216, dm_102_245, dm_102_267, dm_102_271, dm_102_272, dm_102_298, dm_102_306, dm_102_341, dm_102_358, dm_102_388, dm_102_411, dm_78, dm_87, ↓reduceIte, Option.bind_some, qz1, dm_109, dm_109_24, dm_109_29, dm_109_47, dm_109_66, dm_109_87, qx_cl (j := t) (show t ≤ 1000000 by omega), qx_neg (n := t) (show t ≤ 100000000 by omega), Nat.not_le.mpr ht, or_self, h1]⟩
  · have h1 : (511 : Int32) < a := (qx_pred (n := 512) (by omega) (by omega)).mpr h.2
    have h0 : ¬ a < -1 := fun q => h.1 (Int32.lt_trans q (by decide))
    exact Or.inl ⟨5, by decide, by decide, fun N0 => by rw [c45]; exact qk_45_5 (fun N0 => by rw [show dm_56 42 a (qtop C t d) (C, N0) = if a = -1 then some (0, (C, N0)) else (dm_35 a (C, N0)).bind (fun q2 => if q2.1 = 0 then some (1, q2.2) else some (0, q2.2)) from rfl, if_neg hm, qg35_o (Or.inr h)]; rfl) N0, fun C0 => by rw [n102]; simp (decide := true) only [dm_102_117, dm_102_145, dm_102_164, dm_102_181, dm_102_193, dm_102_211, dm_102_215, dm_102_216, dm_102_245, dm_102_267, dm_102_271, dm_102_272, dm_102_298, dm_102_306, dm_102_341, dm_102_358, dm_102_388, dm_102_411, dm_78, dm_87, ↓reduceIte, Option.bind_some, qz1, dm_109, dm_109_24, dm_109_29, dm_109_47, dm_109_66, dm_109_87, qx_cl (j := t) (show t ≤ 1000000 by omega), qx_neg (n := t) (show t ≤ 100000000 by omega), Nat.not_le.mpr ht, or_self, h0, h1]⟩
  have ha0 : ¬ nI j < -1 := fun q => qx_neg (n := j) (by omega) (Int32.lt_trans q (by decide))
  have ha1 : ¬ (511 : Int32) < nI j := fun q => by
    have := (qx_lt (a := 511) (b := j) (by omega) (by omega)).mp q
    omega
  have c0 : ∀ N0 : fj_N, dm_54 t 42 (nI j) (C, N0) = some (0, (C, N0)) := fun N0 => by
    rw [c45]
    exact qk_45 (fun N0 => by rw [show dm_56 42 (nI j) (qtop C t d) (C, N0) = if (nI j) = -1 then some (0, (C, N0)) else (dm_35 (nI j) (C, N0)).bind (fun q2 => if q2.1 = 0 then some (1, q2.2) else some (0, q2.2)) from rfl, if_neg hm, qg35_i hj]; rfl) (fun _ => rfl) (by decide) (qk_over0 (o := 42) (k := 0) (g := 0) (fun _ => rfl) (by decide) (fun _ => rfl) hX0 (by omega) (by omega) (by omega)) (Or.inl ⟨rfl, rfl⟩) N0
  refine Or.inr (Or.inr ⟨C, _, _, _, c0, fun N0 => rfl, fun N0 => ?_, fun C0 => ?_, fun C0 => qn_spread0 (by (repeat rw [qx_un (by omega)]); exact h27) C0, qR_mono (qR_settrap (v := nI j) (Or.inr ⟨j, hj, rfl⟩) (qR_place (v := C 7 t 3 + 1) hR ht) ht) (Nat.le_succ b), by repeat rw [qx_un (by omega)]⟩)
  · simp (decide := true) only [dm_64, dm_3, dm_3_12, ↓reduceIte, Option.bind_some, dm_74]
  · rw [n102]
    simp (decide := true) only [dm_102_117, dm_102_145, dm_102_164, dm_102_181, dm_102_193, dm_102_211, dm_102_215, dm_102_216, dm_102_245, dm_102_267, dm_102_271, dm_102_272, dm_102_298, dm_102_306, dm_102_341, dm_102_358, dm_102_388, dm_102_411, dm_78, dm_87, ↓reduceIte, Option.bind_some, qz1, dm_109, dm_109_24, dm_109_29, dm_109_47, dm_109_66, dm_109_87, qx_cl (j := t) (show t ≤ 1000000 by omega), qx_neg (n := t) (show t ≤ 100000000 by omega), Nat.not_le.mpr ht, or_self, ha0, ha1, qn_114z (o := 42) (fun _ => rfl) hX0, dm_112]
end QO4
