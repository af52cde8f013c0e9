/-! OPS THAT AIM AT TASKS; HELD; PICK -/
section QO5
variable {b : Nat} {C N : fj_N} {t d r : Nat} {a pl : Int32}
theorem qk_58_o {N0 : fj_N} {x : Int32} (h : x < 0 ∨ (¬ x < 0 ∧ nI 12 ≤ x)) : dm_58 x (C, N0) = some (1, (C, N0)) := by
  simp only [dm_58, qg37_o h, Option.bind_some, ↓reduceIte]
theorem qk_58_t {N0 : fj_N} (h8 : C 0 0 8 = nI t) (ht : t < 12) : dm_58 (nI t) (C, N0) = some (1, (C, N0)) := by
  simp only [dm_58, qg37_i ht, Option.bind_some, qz1, h8, ↓reduceIte]
theorem qk_58_f {N0 : fj_N} {u : Nat} (h8 : C 0 0 8 = nI t) (ht : t < 12) (hu : u < 12) (hut : ¬ u = t) (hf : C 7 u 2 = 0) : dm_58 (nI u) (C, N0) = some (1, (C, N0)) := by
  have h1 : ¬ nI u = nI t := fun q => hut ((qx_eq (by omega) (by omega)).mp q)
  simp only [dm_58, qg37_i hu, Option.bind_some, qz1, h8, if_neg h1, qx_cl (j := u) (show u ≤ 1000000 by omega), qx_neg (n := u) (show u ≤ 100000000 by omega), Nat.not_le.mpr hu, or_self, ↓reduceIte, hf]
theorem qk_58_0 {N0 : fj_N} {u : Nat} (h8 : C 0 0 8 = nI t) (ht : t < 12) (hu : u < 12) (hut : ¬ u = t) (hf : ¬ C 7 u 2 = 0) : dm_58 (nI u) (C, N0) = some (0, (C, N0)) := by
  have h1 : ¬ nI u = nI t := fun q => hut ((qx_eq (by omega) (by omega)).mp q)
  simp only [dm_58, qg37_i hu, Option.bind_some, qz1, h8, if_neg h1, qx_cl (j := u) (show u ≤ 1000000 by omega), qx_neg (n := u) (show u ≤ 100000000 by omega), Nat.not_le.mpr hu, or_self, ↓reduceIte, if_neg hf]
theorem qk_45t {o x : Int32} (h56 : ∀ N0 : fj_N, dm_56 o a x (C, N0) = some (0, (C, N0))) (h57 : ∀ N0 : fj_N, dm_57 o a (C, N0) = some (0, (C, N0))) (hn : o = 40 ∨ o = 41 ∨ o = 43) (N0 : fj_N) : dm_54_45 t o a x (C, N0) = (dm_58 x (C, N0)).bind fun q2 => (if q2.1 = 0 then dm_54_110 t o a x 1 q2.2 else some (7, q2.2)) := by
  by_cases h1 : o = 40
  · simp only [dm_54_45, h56, h57, Option.bind_some, ↓reduceIte, qz1, if_pos h1, dm_54_86, dm_54_91]
  by_cases h2 : o = 41
  · simp only [dm_54_45, h56, h57, Option.bind_some, ↓reduceIte, qz1, if_neg h1, if_pos h2, dm_54_86, dm_54_91]
  · have h3 : o = 43 := (hn.resolve_left h1).resolve_left h2
    simp only [dm_54_45, h56, h57, Option.bind_some, ↓reduceIte, qz1, if_neg h1, if_neg h2, if_pos h3, dm_54_86, dm_54_91]
theorem qo_40 (hkill : ∀ (C N : fj_N) (u : Nat), qR (b, false) C N → N 20 0 27 = 0 → u < 12 → qh_live C u → ∃ C' N2 N' : fj_N, (∀ N0 : fj_N, dm_62 (nI u) 9 (C, N0) = some (C', N0)) ∧ (∀ C0 : fj_N, dm_94 (nI u) 9 0 (C0, N) = some (C0, N2)) ∧ (∀ C0 : fj_N, dm_95 (C0, N2) = some (C0, N')) ∧ qR (b, false) C' N' ∧ C' 0 0 7 = C 0 0 7) (hX : qX b C N t d r) : qY b C N t 40 a (qg t pl 40 a) := by
  by_cases hk : d < 1
  · exact Or.inl ⟨2, by decide, by decide, qk_few (o := 40) (k := 1) (fun _ => rfl) (fun _ => rfl) (by omega) hX hk, qn_few (o := 40) (k := 1) (fun _ => rfl) (by omega) hX hk⟩
  obtain ⟨e, rfl⟩ : ∃ e, d = e + 1 := ⟨d - 1, by omega⟩
  have hX0 := hX
  obtain ⟨⟨hb, hR, h27, h8, ht, hs⟩, ⟨h4, hd, h5, hr⟩, h24, h25, h27r, hst, hrt⟩ := hX
  have c4 : (fj_u1 C 7 t 3 (C 7 t 3 + 1)) 7 t 4 = nI (e + 1) := by rw [qx_un (by omega)]; exact h4
  have e25 : (fj_u1 N 24 0 t (C 7 t 3 + 1)) 25 0 t = nI (e + 1) := by rw [qx_un (by omega)]; exact h25
  have c8 : ∀ j, (fj_u1 C 7 t 3 (C 7 t 3 + 1)) 8 t j = C 8 t j := fun j => qx_un (by omega)
  have h55 := qk_55 (o := 40) (k := 1) (fun _ => rfl) (by decide) (by decide) hX0 (by omega)
  have c45 : ∀ N0 : fj_N, dm_54 t 40 a (C, N0) = dm_54_45 t 40 a (C 8 t e) (C, N0) := fun N0 => by
    have h := qk_54 (o := 40) (a := a) (fun _ => rfl) h55 (by decide) hX0 N0
    rw [qtop_s] at h
    exact h
  have n102 := qn_go1 (o := 40) (a := a) (pl := pl) (fun _ => rfl) (by decide) hX0
  have c45t : ∀ N0 : fj_N, dm_54_45 t 40 a (C 8 t e) (C, N0) = (dm_58 (C 8 t e) (C, N0)).bind fun q2 => (if q2.1 = 0 then dm_54_110 t 40 a (C 8 t e) 1 q2.2 else some (7, q2.2)) := qk_45t (o := 40) (fun _ => rfl) (fun _ => rfl) (by decide)
  rcases qx_ix (C 8 t e) (n := 12) (by decide) with h | h | ⟨u, hu, hx⟩
  · exact Or.inl ⟨7, by decide, by decide, fun N0 => by rw [c45, c45t, qk_58_o (Or.inl h)]; simp only [Option.bind_some, qz1], fun C0 => by rw [n102]; simp (decide := true) only [dm_102_117, dm_102_145, dm_102_164, dm_102_181, dm_102_193, dm_102_211, dm_102_215, dm_102_216, dm_102_245, dm_102_267, dm_102_271, dm_102_272, dm_102_298, dm_102_306, dm_102_341, dm_102_358, dm_102_388, dm_102_411, dm_78, dm_87, ↓reduceIte, Option.bind_some, qz1, dm_109, dm_109_24, dm_109_29, dm_109_47, dm_109_66, dm_109_87, qx_cl (j := t) (show t ≤ 1000000 by omega), qx_neg (n := t) (show t ≤ 100000000 by omega), Nat.not_le.mpr ht, or_self, h]⟩
  · have h1 : (11 : Int32) < C 8 t e := (qx_pred (n := 12) (by omega) (by omega)).mpr h.2
    exact Or.inl ⟨7, by decide, by decide, fun N0 => by rw [c45, c45t, qk_58_o (Or.inr h)]; simp only [Option.bind_some, qz1], fun C0 => by rw [n102]; simp (decide := true) only [dm_102_117, dm_102_145, dm_102_164, dm_102_181, dm_102_193, dm_102_211, dm_102_215, dm_102_216, dm_102_245, dm_102_267, dm_102_271, dm_102_272, dm_102_298, dm_102_306, dm_102_341, dm_102_358, dm_102_388, dm_102_411, dm_78, dm_87, ↓reduceIte, Option.bind_some, qz1, dm_109, dm_109_24, dm_109_29, dm_109_47, dm_109_66, dm_109_87, qx_cl (j := t) (show t ≤ 1000000 by omega), qx_neg (n := t) (show t ≤ 100000000 by omega), Nat.not_le.mpr ht, or_self, h.1, h1]⟩
  have ha0 : ¬ nI u < 0 := qx_neg (by omega)
  have ha1 : ¬ (11 : Int32) < nI u := fun q => by
    have := (qx_lt (a := 11) (b := u) (by omega) (by omega)).mp q
    omega
  by_cases hut : u = t
  · have hx2 : C 8 t e = nI t := by rw [hx, hut]
    rw [hut] at ha0 ha1
    exact Or.inl ⟨7, by decide, by decide, fun N0 => by rw [c45, c45t, hx2, qk_58_t h8 ht]; simp only [Option.bind_some, qz1], fun C0 => by rw [n102]; simp (decide := true) only [dm_102_117, dm_102_145, dm_102_164, dm_102_181, dm_102_193, dm_102_211, dm_102_215, dm_102_216, dm_102_245, dm_102_267, dm_102_271, dm_102_272, dm_102_298, dm_102_306, dm_102_341, dm_102_358, dm_102_388, dm_102_411, dm_78, dm_87, ↓reduceIte, Option.bind_some, qz1, dm_109, dm_109_24, dm_109_29, dm_109_47, dm_109_66, dm_109_87, qx_cl (j := t) (show t ≤ 1000000 by omega), qx_neg (n := t) (show t ≤ 100000000 by omega), Nat.not_le.mpr ht, or_self, hx2, ha0, ha1]⟩
  have hne : ¬ nI u = nI t := fun q => hut ((qx_eq (by omega) (by omega)).mp q)
  have n23 : N 23 0 u = C 7 u 2 := (hR.2.2.1 u hu).1.1
  by_cases hf : C 7 u 2 = 0
  · exact Or.inl ⟨7, by decide, by decide, fun N0 => by rw [c45, c45t, hx, qk_58_f h8 ht hu hut hf]; simp only [Option.bind_some, qz1], fun C0 => by rw [n102]; simp (decide := true) only [dm_102_117, dm_102_145, dm_102_164, dm_102_181, dm_102_193, dm_102_211, dm_102_215, dm_102_216, dm_102_245, dm_102_267, dm_102_271, dm_102_272, dm_102_298, dm_102_306, dm_102_341, dm_102_358, dm_102_388, dm_102_411, dm_78, dm_87, ↓reduceIte, Option.bind_some, qz1, dm_109, dm_109_24, dm_109_29, dm_109_47, dm_109_66, dm_109_87, qx_cl (j := t) (show t ≤ 1000000 by omega), qx_neg (n := t) (show t ≤ 100000000 by omega), Nat.not_le.mpr ht, or_self, hx, ha0, ha1, if_neg hne, qx_cl (j := u) (show u ≤ 1000000 by omega), qx_neg (n := u) (show u ≤ 100000000 by omega), Nat.not_le.mpr hu, or_self, n23, hf]⟩
  have c0 : ∀ N0 : fj_N, dm_54 t 40 a (C, N0) = some (0, (C, N0)) := fun N0 => by
    rw [c45, c45t, hx, qk_58_0 h8 ht hu hut hf]
    have h60 := qk_over0 (o := 40) (a := a) (k := 1) (g := 0) (fun _ => rfl) (by decide) (fun _ => rfl) hX0 (by omega) (by omega) (by omega) N0
    simp (decide := true) only [Option.bind_some, ↓reduceIte, dm_54_110, h60]
  have hR2 := qR_pop (d0 := e + 1) (e0 := e) c4 hd (by omega) (qR_place (v := C 7 t 3 + 1) hR ht) ht
  have h27b : (fj_u1 (fj_u1 N 24 0 t (C 7 t 3 + 1)) 25 0 t (nI e)) 20 0 27 = 0 := by rw [qx_un (by omega), qx_un (by omega)]; exact h27
  have hv : ((¬ (fj_u1 (fj_u1 N 24 0 t (C 7 t 3 + 1)) 25 0 t (nI e)) 23 0 u < 1 ∧ ¬ 6 < (fj_u1 (fj_u1 N 24 0 t (C 7 t 3 + 1)) 25 0 t (nI e)) 23 0 u) ↔ qh_live (fj_u1 (fj_u1 C 7 t 3 (C 7 t 3 + 1)) 7 t 4 (nI e)) u) := by rw [(hR2.2.2.1 u hu).1.1]; exact Iff.rfl
  by_cases hl : qh_live (fj_u1 (fj_u1 C 7 t 3 (C 7 t 3 + 1)) 7 t 4 (nI e)) u
  · obtain ⟨C3, N3, N4, k1, k2, k3, k4, k5⟩ := hkill _ _ u hR2 h27b hu hl
    refine Or.inr (Or.inr ⟨C, C3, N3, N4, c0, fun N0 => rfl, fun N0 => ?_, fun C0 => ?_, k3, qR_mono k4 (Nat.le_succ b), by rw [k5, qx_un (by omega), qx_un (by omega)]⟩)
    · have p1 := qk_pop (M := (fj_u1 C 7 t 3 (C 7 t 3 + 1), N0)) (i := t) (d := e) c4 (by omega)
      simp (decide := true) only [dm_64, dm_3, dm_3_12, ↓reduceIte, Option.bind_some, p1, c8, hx, k1]
    · have q1 := qn_live1 (C := C0) hu (hv.mpr hl)
      rw [n102]
      simp (decide := true) only [dm_102_117, dm_102_145, dm_102_164, dm_102_181, dm_102_193, dm_102_211, dm_102_215, dm_102_216, dm_102_245, dm_102_267, dm_102_271, dm_102_272, dm_102_298, dm_102_306, dm_102_341, dm_102_358, dm_102_388, dm_102_411, dm_78, dm_87, ↓reduceIte, Option.bind_some, qz1, dm_109, dm_109_24, dm_109_29, dm_109_47, dm_109_66, dm_109_87, qx_cl (j := t) (show t ≤ 1000000 by omega), qx_neg (n := t) (show t ≤ 100000000 by omega), Nat.not_le.mpr ht, or_self, hx, ha0, ha1, if_neg hne, qx_cl (j := u) (show u ≤ 1000000 by omega), qx_neg (n := u) (show u ≤ 100000000 by omega), Nat.not_le.mpr hu, or_self, n23, if_neg hf, qn_114 (o := 40) (k := 1) (e := e) (fun _ => rfl) hX0, dm_112, q1, k2]
  · refine Or.inr (Or.inr ⟨C, _, _, _, c0, fun N0 => rfl, fun N0 => ?_, fun C0 => ?_, fun C0 => qn_spread0 (by (repeat rw [qx_un (by omega)]); exact h27) C0, qR_mono (hR2) (Nat.le_succ b), by repeat rw [qx_un (by omega)]⟩)
    · have p1 := qk_pop (M := (fj_u1 C 7 t 3 (C 7 t 3 + 1), N0)) (i := t) (d := e) c4 (by omega)
      simp (decide := true) only [dm_64, dm_3, dm_3_12, ↓reduceIte, Option.bind_some, p1, c8, hx, qk_kill0 hu hl]
    · have q1 := qn_live0 (C := C0) hu (fun q => hl (hv.mp q))
      rw [n102]
      simp (decide := true) only [dm_102_117, dm_102_145, dm_102_164, dm_102_181, dm_102_193, dm_102_211, dm_102_215, dm_102_216, dm_102_245, dm_102_267, dm_102_271, dm_102_272, dm_102_298, dm_102_306, dm_102_341, dm_102_358, dm_102_388, dm_102_411, dm_78, dm_87, ↓reduceIte, Option.bind_some, qz1, dm_109, dm_109_24, dm_109_29, dm_109_47, dm_109_66, dm_109_87, qx_cl (j := t) (show t ≤ 1000000 by omega), qx_neg (n := t) (show t ≤ 100000000 by omega), Nat.not_le.mpr ht, or_self, hx, ha0, ha1, if_neg hne, qx_cl (j := u) (show u ≤ 1000000 by omega), qx_neg (n := u) (show u ≤ 100000000 by omega), Nat.not_le.mpr hu, or_self, n23, if_neg hf, qn_114 (o := 40) (k := 1) (e := e) (fun _ => rfl) hX0, dm_112, q1]
theorem qo_41 (hX : qX b C N t d r) : qY b C N t 41 a (qg t pl 41 a) := by
  by_cases hk : d < 1
  · exact Or.inl ⟨2, by decide, by decide, qk_few (o := 41) (k := 1) (fun _ => rfl) (fun _ => rfl) (by omega) hX hk, qn_few (o := 41) (k := 1) (fun _ => rfl) (by omega) hX hk⟩
  obtain ⟨e, rfl⟩ : ∃ e, d = e + 1 := ⟨d - 1, by omega⟩
  have hX0 := hX
  obtain ⟨⟨hb, hR, h27, h8, ht, hs⟩, ⟨h4, hd, h5, hr⟩, h24, h25, h27r, hst, hrt⟩ := hX
  have c4 : (fj_u1 C 7 t 3 (C 7 t 3 + 1)) 7 t 4 = nI (e + 1) := by rw [qx_un (by omega)]; exact h4
  have e25 : (fj_u1 N 24 0 t (C 7 t 3 + 1)) 25 0 t = nI (e + 1) := by rw [qx_un (by omega)]; exact h25
  have c8 : ∀ j, (fj_u1 C 7 t 3 (C 7 t 3 + 1)) 8 t j = C 8 t j := fun j => qx_un (by omega)
  have h55 := qk_55 (o := 41) (k := 1) (fun _ => rfl) (by decide) (by decide) hX0 (by omega)
  have c45 : ∀ N0 : fj_N, dm_54 t 41 a (C, N0) = dm_54_45 t 41 a (C 8 t e) (C, N0) := fun N0 => by
    have h := qk_54 (o := 41) (a := a) (fun _ => rfl) h55 (by decide) hX0 N0
    rw [qtop_s] at h
    exact h
  have n102 := qn_go1 (o := 41) (a := a) (pl := pl) (fun _ => rfl) (by decide) hX0
  have c45t : ∀ N0 : fj_N, dm_54_45 t 41 a (C 8 t e) (C, N0) = (dm_58 (C 8 t e) (C, N0)).bind fun q2 => (if q2.1 = 0 then dm_54_110 t 41 a (C 8 t e) 1 q2.2 else some (7, q2.2)) := qk_45t (o := 41) (fun _ => rfl) (fun _ => rfl) (by decide)
  rcases qx_ix (C 8 t e) (n := 12) (by decide) with h | h | ⟨u, hu, hx⟩
  · exact Or.inl ⟨7, by decide, by decide, fun N0 => by rw [c45, c45t, qk_58_o (Or.inl h)]; simp only [Option.bind_some, qz1], fun C0 => by rw [n102]; simp (decide := true) only [dm_102_117, dm_102_145, dm_102_164, dm_102_181, dm_102_193, dm_102_211, dm_102_215, dm_102_216, dm_102_245, dm_102_267, dm_102_271, dm_102_272, dm_102_298, dm_102_306, dm_102_341, dm_102_358, dm_102_388, dm_102_411, dm_78, dm_87, ↓reduceIte, Option.bind_some, qz1, dm_109, dm_109_24, dm_109_29, dm_109_47, dm_109_66, dm_109_87, qx_cl (j := t) (show t ≤ 1000000 by omega), qx_neg (n := t) (show t ≤ 100000000 by omega), Nat.not_le.mpr ht, or_self, h]⟩
  · have h1 : (11 : Int32) < C 8 t e := (qx_pred (n := 12) (by omega) (by omega)).mpr h.2
    exact Or.inl ⟨7, by decide, by decide, fun N0 => by rw [c45, c45t, qk_58_o (Or.inr h)]; simp only [Option.bind_some, qz1], fun C0 => by rw [n102]; simp (decide := true) only [dm_102_117, dm_102_145, dm_102_164, dm_102_181, dm_102_193, dm_102_211, dm_102_215, dm_102_216, dm_102_245, dm_102_267, dm_102_271, dm_102_272, dm_102_298, dm_102_306, dm_102_341, dm_102_358, dm_102_388, dm_102_411, dm_78, dm_87, ↓reduceIte, Option.bind_some, qz1, dm_109, dm_109_24, dm_109_29, dm_109_47, dm_109_66, dm_109_87, qx_cl (j := t) (show t ≤ 1000000 by omega), qx_neg (n := t) (show t ≤ 100000000 by omega), Nat.not_le.mpr ht, or_self, h.1, h1]⟩
  have ha0 : ¬ nI u < 0 := qx_neg (by omega)
  have ha1 : ¬ (11 : Int32) < nI u := fun q => by
    have := (qx_lt (a := 11) (b := u) (by omega) (by omega)).mp q
    omega
  by_cases hut : u = t
  · have hx2 : C 8 t e = nI t := by rw [hx, hut]
    rw [hut] at ha0 ha1
    exact Or.inl ⟨7, by decide, by decide, fun N0 => by rw [c45, c45t, hx2, qk_58_t h8 ht]; simp only [Option.bind_some, qz1], fun C0 => by rw [n102]; simp (decide := true) only [dm_102_117, dm_102_145, dm_102_164, dm_102_181, dm_102_193, dm_102_211, dm_102_215, dm_102_216, dm_102_245, dm_102_267, dm_102_271, dm_102_272, dm_102_298, dm_102_306, dm_102_341, dm_102_358, dm_102_388, dm_102_411, dm_78, dm_87, ↓reduceIte, Option.bind_some, qz1, dm_109, dm_109_24, dm_109_29, dm_109_47, dm_109_66, dm_109_87, qx_cl (j := t) (show t ≤ 1000000 by omega), qx_neg (n := t) (show t ≤ 100000000 by omega), Nat.not_le.mpr ht, or_self, hx2, ha0, ha1]⟩
  have hne : ¬ nI u = nI t := fun q => hut ((qx_eq (by omega) (by omega)).mp q)
  have n23 : N 23 0 u = C 7 u 2 := (hR.2.2.1 u hu).1.1
  by_cases hf : C 7 u 2 = 0
  · exact Or.inl ⟨7, by decide, by decide, fun N0 => by rw [c45, c45t, hx, qk_58_f h8 ht hu hut hf]; simp only [Option.bind_some, qz1], fun C0 => by rw [n102]; simp (decide := true) only [dm_102_117, dm_102_145, dm_102_164, dm_102_181, dm_102_193, dm_102_211, dm_102_215, dm_102_216, dm_102_245, dm_102_267, dm_102_271, dm_102_272, dm_102_298, dm_102_306, dm_102_341, dm_102_358, dm_102_388, dm_102_411, dm_78, dm_87, ↓reduceIte, Option.bind_some, qz1, dm_109, dm_109_24, dm_109_29, dm_109_47, dm_109_66, dm_109_87, qx_cl (j := t) (show t ≤ 1000000 by omega), qx_neg (n := t) (show t ≤ 100000000 by omega), Nat.not_le.mpr ht, or_self, hx, ha0, ha1, if_neg hne, qx_cl (j := u) (show u ≤ 1000000 by omega), qx_neg (n := u) (show u ≤ 100000000 by omega), Nat.not_le.mpr hu, or_self, n23, hf]⟩
  have c0 : ∀ N0 : fj_N, dm_54 t 41 a (C, N0) = some (0, (C, N0)) := fun N0 => by
    rw [c45, c45t, hx, qk_58_0 h8 ht hu hut hf]
    have h60 := qk_over0 (o := 41) (a := a) (k := 1) (g := 1) (fun _ => rfl) (by decide) (fun _ => rfl) hX0 (by omega) (by omega) (by omega) N0
    simp (decide := true) only [Option.bind_some, ↓reduceIte, dm_54_110, h60]
  have hv : ((¬ N 23 0 u < 1 ∧ ¬ 6 < N 23 0 u) ↔ qh_live C u) := by rw [n23]; exact Iff.rfl
  have hb0 : ∀ N0 : fj_N, dm_13 t 0 (C, N0) = some (nI u, (C, N0)) := fun N0 => by rw [← hx]; exact qk_below0 (M := (C, N0)) (d := e) h4 (by omega)
  have s2 : (fj_u1 (fj_u1 (fj_u1 C 7 t 2 6) 7 t 10 (nI u)) 7 t 11 (nI u)) 7 t 2 = 6 := by rw [qx_un (by omega), qx_un (by omega), qx_us]
  have s10 : (fj_u1 (fj_u1 (fj_u1 C 7 t 2 6) 7 t 10 (nI u)) 7 t 11 (nI u)) 7 t 10 = nI u := by rw [qx_un (by omega), qx_us]
  have hlu : qh_alive (fj_u1 (fj_u1 (fj_u1 C 7 t 2 6) 7 t 10 (nI u)) 7 t 11 (nI u)) (nI u) ↔ qh_live C u := by
    rw [qh_alive_j hu]
    unfold qh_live
    rw [qx_un (by omega), qx_un (by omega), qx_un (by omega)]
  by_cases hl : qh_live C u
  · have hth : ¬ qh_there (fj_u1 (fj_u1 (fj_u1 C 7 t 2 6) 7 t 10 (nI u)) 7 t 11 (nI u)) t := by
      rintro (⟨h, -⟩ | ⟨h, -⟩ | ⟨h, -⟩ | ⟨-, h⟩)
      · rw [s2] at h; exact absurd h (by decide)
      · rw [s2] at h; exact absurd h (by decide)
      · rw [s2] at h; exact absurd h (by decide)
      · rw [s10] at h; exact h (hlu.mpr hl)
    refine Or.inr (Or.inl ⟨_, _, c0, fun N0 => ?_, fun C0 => ?_, qR_mono (qR_wwait (c := u) hu hs hR ht) (Nat.le_succ b), by (repeat rw [qx_un (by omega)]); exact h27, by repeat rw [qx_un (by omega)]⟩)
    · have k0 := qk_there0 (M := (fj_u1 (fj_u1 (fj_u1 C 7 t 2 6) 7 t 10 (nI u)) 7 t 11 (nI u), N0)) (i := t) hth
      simp (decide := true) only [dm_53, ↓reduceIte, hb0, Option.bind_some, dm_10, dm_53_100, k0]
    · have q1 := qn_live1 (C := C0) hu (hv.mpr hl)
      rw [n102]
      simp (decide := true) only [dm_102_117, dm_102_145, dm_102_164, dm_102_181, dm_102_193, dm_102_211, dm_102_215, dm_102_216, dm_102_245, dm_102_267, dm_102_271, dm_102_272, dm_102_298, dm_102_306, dm_102_341, dm_102_358, dm_102_388, dm_102_411, dm_78, dm_87, ↓reduceIte, Option.bind_some, qz1, dm_109, dm_109_24, dm_109_29, dm_109_47, dm_109_66, dm_109_87, qx_cl (j := t) (show t ≤ 1000000 by omega), qx_neg (n := t) (show t ≤ 100000000 by omega), Nat.not_le.mpr ht, or_self, hx, ha0, ha1, if_neg hne, qx_cl (j := u) (show u ≤ 1000000 by omega), qx_neg (n := u) (show u ≤ 100000000 by omega), Nat.not_le.mpr hu, or_self, n23, if_neg hf, q1, dm_106]
  · have hth : qh_there (fj_u1 (fj_u1 (fj_u1 C 7 t 2 6) 7 t 10 (nI u)) 7 t 11 (nI u)) t := Or.inr (Or.inr (Or.inr ⟨s2, by rw [s10]; exact fun q => hl (hlu.mp q)⟩))
    have cw3 : (fj_u1 (fj_u1 (fj_u1 (fj_u1 C 7 t 2 6) 7 t 10 (nI u)) 7 t 11 (nI u)) 7 t 2 1) 7 t 3 = C 7 t 3 := by rw [qx_un (by omega), qx_un (by omega), qx_un (by omega), qx_un (by omega)]
    have w4 : (fj_u1 (fj_u1 (fj_u1 (fj_u1 (fj_u1 C 7 t 2 6) 7 t 10 (nI u)) 7 t 11 (nI u)) 7 t 2 1) 7 t 3 (C 7 t 3 + 1)) 7 t 4 = nI (e + 1) := by rw [qx_un (by omega), qx_un (by omega), qx_un (by omega), qx_un (by omega), qx_un (by omega)]; exact h4
    have w8 : ∀ j, (fj_u1 (fj_u1 (fj_u1 (fj_u1 (fj_u1 C 7 t 2 6) 7 t 10 (nI u)) 7 t 11 (nI u)) 7 t 2 1) 7 t 3 (C 7 t 3 + 1)) 8 t j = C 8 t j := fun j => by rw [qx_un (by omega), qx_un (by omega), qx_un (by omega), qx_un (by omega), qx_un (by omega)]
    have w9 : (fj_u1 (fj_u1 (fj_u1 (fj_u1 (fj_u1 (fj_u1 C 7 t 2 6) 7 t 10 (nI u)) 7 t 11 (nI u)) 7 t 2 1) 7 t 3 (C 7 t 3 + 1)) 7 t 4 (nI e)) 7 u 9 = C 7 u 9 := by rw [qx_un (by omega), qx_un (by omega), qx_un (by omega), qx_un (by omega), qx_un (by omega), qx_un (by omega)]
    have e32 : (fj_u1 (fj_u1 N 24 0 t (C 7 t 3 + 1)) 25 0 t (nI e)) 32 0 u = C 7 u 9 := by rw [qx_un (by omega), qx_un (by omega)]; exact (hR.2.2.1 u hu).1.2.2.2.2.2.2.2
    refine Or.inr (Or.inr ⟨fj_u1 (fj_u1 (fj_u1 (fj_u1 C 7 t 2 6) 7 t 10 (nI u)) 7 t 11 (nI u)) 7 t 2 1, _, _, _, c0, fun N0 => by
      have k0 := qk_there1 (M := (fj_u1 (fj_u1 (fj_u1 C 7 t 2 6) 7 t 10 (nI u)) 7 t 11 (nI u), N0)) (i := t) hth
      simp (decide := true) only [dm_53, ↓reduceIte, hb0, Option.bind_some, dm_10, dm_53_100, k0, qz1], fun N0 => ?_, fun C0 => ?_, fun C0 => qn_spread0 (by (repeat rw [qx_un (by omega)]); exact h27) C0, qR_mono (qR_push (v := C 7 u 9) (d0 := e) (qx_us _ _ _ _ _) (by omega) (qR_pop (d0 := e + 1) (e0 := e) w4 hd (by omega) (qR_place (v := C 7 t 3 + 1) (qR_wt (s := 6) (v1 := nI u) (v2 := nI u) hs hR ht) ht) ht) ht) (Nat.le_succ b), by repeat rw [qx_un (by omega)]⟩)
    · rw [cw3]
      have p1 := qk_pop (M := (fj_u1 (fj_u1 (fj_u1 (fj_u1 (fj_u1 C 7 t 2 6) 7 t 10 (nI u)) 7 t 11 (nI u)) 7 t 2 1) 7 t 3 (C 7 t 3 + 1), N0)) (i := t) (d := e) w4 (by omega)
      have p2 := qk_push (M := (fj_u1 (fj_u1 (fj_u1 (fj_u1 (fj_u1 (fj_u1 C 7 t 2 6) 7 t 10 (nI u)) 7 t 11 (nI u)) 7 t 2 1) 7 t 3 (C 7 t 3 + 1)) 7 t 4 (nI e), N0)) (i := t) (d := e) (x := C 7 u 9) (qx_us _ _ _ _ _) (by omega)
      simp (decide := true) only [dm_64, dm_3, dm_3_12, ↓reduceIte, Option.bind_some, dm_74, dm_75, p1, w8, hx, qg37_i hu, qz1, qx_cl (j := u) (show u ≤ 1000000 by omega), qx_neg (n := u) (show u ≤ 100000000 by omega), Nat.not_le.mpr hu, or_self, w9, p2]
    · have q1 := qn_live0 (C := C0) hu (fun q => hl (hv.mp q))
      rw [n102]
      simp (decide := true) only [dm_102_117, dm_102_145, dm_102_164, dm_102_181, dm_102_193, dm_102_211, dm_102_215, dm_102_216, dm_102_245, dm_102_267, dm_102_271, dm_102_272, dm_102_298, dm_102_306, dm_102_341, dm_102_358, dm_102_388, dm_102_411, dm_78, dm_87, ↓reduceIte, Option.bind_some, qz1, dm_109, dm_109_24, dm_109_29, dm_109_47, dm_109_66, dm_109_87, qx_cl (j := t) (show t ≤ 1000000 by omega), qx_neg (n := t) (show t ≤ 100000000 by omega), Nat.not_le.mpr ht, or_self, hx, ha0, ha1, if_neg hne, qx_cl (j := u) (show u ≤ 1000000 by omega), qx_neg (n := u) (show u ≤ 100000000 by omega), Nat.not_le.mpr hu, or_self, n23, if_neg hf, qn_114 (o := 41) (k := 1) (e := e) (fun _ => rfl) hX0, q1, dm_112, e32, qn_gives0 (C0 := C0) (N1 := fj_u1 (fj_u1 N 24 0 t (C 7 t 3 + 1)) 25 0 t (nI e)) (e := e) (v := C 7 u 9) ht (by omega) (qx_us _ _ _ _ _)]
theorem qo_43 (hX : qX b C N t d r) : qY b C N t 43 a (qg t pl 43 a) := by
  by_cases hk : d < 1
  · exact Or.inl ⟨2, by decide, by decide, qk_few (o := 43) (k := 1) (fun _ => rfl) (fun _ => rfl) (by omega) hX hk, qn_few (o := 43) (k := 1) (fun _ => rfl) (by omega) hX hk⟩
  obtain ⟨e, rfl⟩ : ∃ e, d = e + 1 := ⟨d - 1, by omega⟩
  have hX0 := hX
  obtain ⟨⟨hb, hR, h27, h8, ht, hs⟩, ⟨h4, hd, h5, hr⟩, h24, h25, h27r, hst, hrt⟩ := hX
  have c4 : (fj_u1 C 7 t 3 (C 7 t 3 + 1)) 7 t 4 = nI (e + 1) := by rw [qx_un (by omega)]; exact h4
  have e25 : (fj_u1 N 24 0 t (C 7 t 3 + 1)) 25 0 t = nI (e + 1) := by rw [qx_un (by omega)]; exact h25
  have c8 : ∀ j, (fj_u1 C 7 t 3 (C 7 t 3 + 1)) 8 t j = C 8 t j := fun j => qx_un (by omega)
  have h55 := qk_55 (o := 43) (k := 1) (fun _ => rfl) (by decide) (by decide) hX0 (by omega)
  have c45 : ∀ N0 : fj_N, dm_54 t 43 a (C, N0) = dm_54_45 t 43 a (C 8 t e) (C, N0) := fun N0 => by
    have h := qk_54 (o := 43) (a := a) (fun _ => rfl) h55 (by decide) hX0 N0
    rw [qtop_s] at h
    exact h
  have n102 := qn_go1 (o := 43) (a := a) (pl := pl) (fun _ => rfl) (by decide) hX0
  have c45t : ∀ N0 : fj_N, dm_54_45 t 43 a (C 8 t e) (C, N0) = (dm_58 (C 8 t e) (C, N0)).bind fun q2 => (if q2.1 = 0 then dm_54_110 t 43 a (C 8 t e) 1 q2.2 else some (7, q2.2)) := qk_45t (o := 43) (fun _ => rfl) (fun _ => rfl) (by decide)
  rcases qx_ix (C 8 t e) (n := 12) (by decide) with h | h | ⟨u, hu, hx⟩
  · exact Or.inl ⟨7, by decide, by decide, fun N0 => by rw [c45, c45t, qk_58_o (Or.inl h)]; simp only [Option.bind_some, qz1], fun C0 => by rw [n102]; simp (decide := true) only [dm_102_117, dm_102_145, dm_102_164, dm_102_181, dm_102_193, dm_102_211, dm_102_215, dm_102_216, dm_102_245, dm_102_267, dm_102_271, dm_102_272, dm_102_298, dm_102_306, dm_102_341, dm_102_358, dm_102_388, dm_102_411, dm_78, dm_87, ↓reduceIte, Option.bind_some, qz1, dm_109, dm_109_24, dm_109_29, dm_109_47, dm_109_66, dm_109_87, qx_cl (j := t) (show t ≤ 1000000 by omega), qx_neg (n := t) (show t ≤ 100000000 by omega), Nat.not_le.mpr ht, or_self, h]⟩
  · have h1 : (11 : Int32) < C 8 t e := (qx_pred (n := 12) (by omega) (by omega)).mpr h.2
    exact Or.inl ⟨7, by decide, by decide, fun N0 => by rw [c45, c45t, qk_58_o (Or.inr h)]; simp only [Option.bind_some, qz1], fun C0 => by rw [n102]; simp (decide := true) only [dm_102_117, dm_102_145, dm_102_164, dm_102_181, dm_102_193, dm_102_211, dm_102_215, dm_102_216, dm_102_245, dm_102_267, dm_102_271, dm_102_272, dm_102_298, dm_102_306, dm_102_341, dm_102_358, dm_102_388, dm_102_411, dm_78, dm_87, ↓reduceIte, Option.bind_some, qz1, dm_109, dm_109_24, dm_109_29, dm_109_47, dm_109_66, dm_109_87, qx_cl (j := t) (show t ≤ 1000000 by omega), qx_neg (n := t) (show t ≤ 100000000 by omega), Nat.not_le.mpr ht, or_self, h.1, h1]⟩
  have ha0 : ¬ nI u < 0 := qx_neg (by omega)
  have ha1 : ¬ (11 : Int32) < nI u := fun q => by
    have := (qx_lt (a := 11) (b := u) (by omega) (by omega)).mp q
    omega
  by_cases hut : u = t
  · have hx2 : C 8 t e = nI t := by rw [hx, hut]
    rw [hut] at ha0 ha1
    exact Or.inl ⟨7, by decide, by decide, fun N0 => by rw [c45, c45t, hx2, qk_58_t h8 ht]; simp only [Option.bind_some, qz1], fun C0 => by rw [n102]; simp (decide := true) only [dm_102_117, dm_102_145, dm_102_164, dm_102_181, dm_102_193, dm_102_211, dm_102_215, dm_102_216, dm_102_245, dm_102_267, dm_102_271, dm_102_272, dm_102_298, dm_102_306, dm_102_341, dm_102_358, dm_102_388, dm_102_411, dm_78, dm_87, ↓reduceIte, Option.bind_some, qz1, dm_109, dm_109_24, dm_109_29, dm_109_47, dm_109_66, dm_109_87, qx_cl (j := t) (show t ≤ 1000000 by omega), qx_neg (n := t) (show t ≤ 100000000 by omega), Nat.not_le.mpr ht, or_self, hx2, ha0, ha1]⟩
  have hne : ¬ nI u = nI t := fun q => hut ((qx_eq (by omega) (by omega)).mp q)
  have n23 : N 23 0 u = C 7 u 2 := (hR.2.2.1 u hu).1.1
  by_cases hf : C 7 u 2 = 0
  · exact Or.inl ⟨7, by decide, by decide, fun N0 => by rw [c45, c45t, hx, qk_58_f h8 ht hu hut hf]; simp only [Option.bind_some, qz1], fun C0 => by rw [n102]; simp (decide := true) only [dm_102_117, dm_102_145, dm_102_164, dm_102_181, dm_102_193, dm_102_211, dm_102_215, dm_102_216, dm_102_245, dm_102_267, dm_102_271, dm_102_272, dm_102_298, dm_102_306, dm_102_341, dm_102_358, dm_102_388, dm_102_411, dm_78, dm_87, ↓reduceIte, Option.bind_some, qz1, dm_109, dm_109_24, dm_109_29, dm_109_47, dm_109_66, dm_109_87, qx_cl (j := t) (show t ≤ 1000000 by omega), qx_neg (n := t) (show t ≤ 100000000 by omega), Nat.not_le.mpr ht, or_self, hx, ha0, ha1, if_neg hne, qx_cl (j := u) (show u ≤ 1000000 by omega), qx_neg (n := u) (show u ≤ 100000000 by omega), Nat.not_le.mpr hu, or_self, n23, hf]⟩
  by_cases h8f : C 7 u 2 = 8
  · refine Or.inl ⟨8, by decide, by decide, fun N0 => ?_, fun C0 => by rw [n102]; simp (decide := true) only [dm_102_117, dm_102_145, dm_102_164, dm_102_181, dm_102_193, dm_102_211, dm_102_215, dm_102_216, dm_102_245, dm_102_267, dm_102_271, dm_102_272, dm_102_298, dm_102_306, dm_102_341, dm_102_358, dm_102_388, dm_102_411, dm_78, dm_87, ↓reduceIte, Option.bind_some, qz1, dm_109, dm_109_24, dm_109_29, dm_109_47, dm_109_66, dm_109_87, qx_cl (j := t) (show t ≤ 1000000 by omega), qx_neg (n := t) (show t ≤ 100000000 by omega), Nat.not_le.mpr ht, or_self, hx, ha0, ha1, if_neg hne, qx_cl (j := u) (show u ≤ 1000000 by omega), qx_neg (n := u) (show u ≤ 100000000 by omega), Nat.not_le.mpr hu, or_self, n23, h8f]⟩
    rw [c45, c45t, hx, qk_58_0 h8 ht hu hut hf]
    have h60 := qk_over0 (o := 43) (a := a) (k := 1) (g := 0) (fun _ => rfl) (by decide) (fun _ => rfl) hX0 (by omega) (by omega) (by omega) N0
    simp (decide := true) only [Option.bind_some, ↓reduceIte, dm_54_110, h60, dm_59, qg37_i hu, qz1, qx_cl (j := u) (show u ≤ 1000000 by omega), qx_neg (n := u) (show u ≤ 100000000 by omega), Nat.not_le.mpr hu, or_self, h8f]
  have c0 : ∀ N0 : fj_N, dm_54 t 43 a (C, N0) = some (0, (C, N0)) := fun N0 => by
    rw [c45, c45t, hx, qk_58_0 h8 ht hu hut hf]
    have h60 := qk_over0 (o := 43) (a := a) (k := 1) (g := 0) (fun _ => rfl) (by decide) (fun _ => rfl) hX0 (by omega) (by omega) (by omega) N0
    simp (decide := true) only [Option.bind_some, ↓reduceIte, dm_54_110, h60, dm_59, qg37_i hu, qz1, qx_cl (j := u) (show u ≤ 1000000 by omega), qx_neg (n := u) (show u ≤ 100000000 by omega), Nat.not_le.mpr hu, or_self, if_neg h8f]
  have c7 : (fj_u1 C 7 t 3 (C 7 t 3 + 1)) 7 t 7 = C 7 t 7 := qx_un (by omega)
  have e30 : (fj_u1 (fj_u1 N 24 0 t (C 7 t 3 + 1)) 25 0 t (nI e)) 30 0 t = C 7 t 7 := by rw [qx_un (by omega), qx_un (by omega)]; exact (hR.2.2.1 t ht).1.2.2.2.2.2.1
  refine Or.inr (Or.inr ⟨C, _, _, _, c0, fun N0 => rfl, fun N0 => ?_, fun C0 => ?_, fun C0 => qn_spread0 (by (repeat rw [qx_un (by omega)]); exact h27) C0, qR_mono (qR_links (v := C 7 t 7 ||| ((1 : Int32) <<< (nI u &&& 31))) (qR_pop (d0 := e + 1) (e0 := e) c4 hd (by omega) (qR_place (v := C 7 t 3 + 1) hR ht) ht) ht) (Nat.le_succ b), by repeat rw [qx_un (by omega)]⟩)
  · have p1 := qk_pop (M := (fj_u1 C 7 t 3 (C 7 t 3 + 1), N0)) (i := t) (d := e) c4 (by omega)
    simp (decide := true) only [dm_64, dm_3, dm_3_12, ↓reduceIte, Option.bind_some, dm_74, p1, c7, c8, hx]
  · rw [n102]
    simp (decide := true) only [dm_102_117, dm_102_145, dm_102_164, dm_102_181, dm_102_193, dm_102_211, dm_102_215, dm_102_216, dm_102_245, dm_102_267, dm_102_271, dm_102_272, dm_102_298, dm_102_306, dm_102_341, dm_102_358, dm_102_388, dm_102_411, dm_78, dm_87, ↓reduceIte, Option.bind_some, qz1, dm_109, dm_109_24, dm_109_29, dm_109_47, dm_109_66, dm_109_87, qx_cl (j := t) (show t ≤ 1000000 by omega), qx_neg (n := t) (show t ≤ 100000000 by omega), Nat.not_le.mpr ht, or_self, hx, ha0, ha1, if_neg hne, qx_cl (j := u) (show u ≤ 1000000 by omega), qx_neg (n := u) (show u ≤ 100000000 by omega), Nat.not_le.mpr hu, or_self, n23, if_neg hf, if_neg h8f, qn_114 (o := 43) (k := 1) (e := e) (fun _ => rfl) hX0, dm_112, e30]
theorem qo_44 (hX : qX b C N t d r) : qY b C N t 44 a (qg t pl 44 a) := by
  have hX0 := hX
  obtain ⟨⟨hb, hR, h27, h8, ht, hs⟩, ⟨h4, hd, h5, hr⟩, h24, h25, h27r, hst, hrt⟩ := hX
  have c4 : (fj_u1 C 7 t 3 (C 7 t 3 + 1)) 7 t 4 = nI d := by rw [qx_un (by omega)]; exact h4
  have e25 : (fj_u1 N 24 0 t (C 7 t 3 + 1)) 25 0 t = nI d := by rw [qx_un (by omega)]; exact h25
  have c8 : ∀ j, (fj_u1 C 7 t 3 (C 7 t 3 + 1)) 8 t j = C 8 t j := fun j => qx_un (by omega)
  have h55 := qk_55 (o := 44) (k := 0) (fun _ => rfl) (by decide) (by decide) hX0 (by omega)
  have c45 : ∀ N0 : fj_N, dm_54 t 44 a (C, N0) = dm_54_45 t 44 a (qtop C t d) (C, N0) := fun N0 => by
    have h := qk_54 (o := 44) (a := a) (fun _ => rfl) h55 (by decide) hX0 N0
    exact h
  have n102 := qn_go0 (o := 44) (a := a) (pl := pl) (fun _ => rfl) (by decide) hX0
  rcases qx_ix a (n := 6) (by decide) with h | h | ⟨j, hj, rfl⟩
  · exact Or.inl ⟨6, by decide, by decide, fun N0 => by rw [c45]; exact qk_45_6 (fun _ => rfl) (fun N0 => by rw [show dm_57 44 a (C, N0) = (dm_38 a (C, N0)).bind (fun q2 => if q2.1 = 0 then some (1, q2.2) else some (0, q2.2)) from rfl, qg38_o (Or.inl h)]; rfl) N0, fun C0 => by rw [n102]; simp (decide := true) only [dm_102_117, dm_102_145, dm_102_164, dm_102_181, dm_102_193, dm_102_211, dm_102_215, dm_102_216, dm_102_245, dm_102_267, dm_102_271, dm_102_272, dm_102_298, dm_102_306, dm_102_341, dm_102_358, dm_102_388, dm_102_411, dm_78, dm_87, ↓reduceIte, Option.bind_some, qz1, dm_109, dm_109_24, dm_109_29, dm_109_47, dm_109_66, dm_109_87, qx_cl (j := t) (show t ≤ 1000000 by omega), qx_neg (n := t) (show t ≤ 100000000 by omega), Nat.not_le.mpr ht, or_self, h]⟩
  · have h1 : (5 : Int32) < a := (qx_pred (n := 6) (by omega) (by omega)).mpr h.2
    exact Or.inl ⟨6, by decide, by decide, fun N0 => by rw [c45]; exact qk_45_6 (fun _ => rfl) (fun N0 => by rw [show dm_57 44 a (C, N0) = (dm_38 a (C, N0)).bind (fun q2 => if q2.1 = 0 then some (1, q2.2) else some (0, q2.2)) from rfl, qg38_o (Or.inr h)]; rfl) N0, fun C0 => by rw [n102]; simp (decide := true) only [dm_102_117, dm_102_145, dm_102_164, dm_102_181, dm_102_193, dm_102_211, dm_102_215, dm_102_216, dm_102_245, dm_102_267, dm_102_271, dm_102_272, dm_102_298, dm_102_306, dm_102_341, dm_102_358, dm_102_388, dm_102_411, dm_78, dm_87, ↓reduceIte, Option.bind_some, qz1, dm_109, dm_109_24, dm_109_29, dm_109_47, dm_109_66, dm_109_87, qx_cl (j := t) (show t ≤ 1000000 by omega), qx_neg (n := t) (show t ≤ 100000000 by omega), Nat.not_le.mpr ht, or_self, h.1, h1]⟩
  have ha0 : ¬ nI j < 0 := qx_neg (by omega)
  have ha1 : ¬ (5 : Int32) < nI j := fun q => by
    have := (qx_lt (a := 5) (b := j) (by omega) (by omega)).mp q
    omega
  obtain ⟨k36, k35, n, z, z1, z2, z3, z4, z5, z6⟩ := hR.2.2.2 j hj
  by_cases hg : d < 24
  · have c0 : ∀ N0 : fj_N, dm_54 t 44 (nI j) (C, N0) = some (0, (C, N0)) := fun N0 => by
      rw [c45]
      exact qk_45 (fun _ => rfl) (fun N0 => by rw [show dm_57 44 (nI j) (C, N0) = (dm_38 (nI j) (C, N0)).bind (fun q2 => if q2.1 = 0 then some (1, q2.2) else some (0, q2.2)) from rfl, qg38_i hj]; rfl) (by decide) (qk_over0 (o := 44) (k := 0) (g := 1) (fun _ => rfl) (by decide) (fun _ => rfl) hX0 (by omega) (by omega) (by omega)) (Or.inl ⟨rfl, rfl⟩) N0
    have hne24 : ¬ nI d = 24 := fun q => by
      have := (qx_eq (a := d) (b := 24) (by omega) (by omega)).mp q
      omega
    have ev : (fj_u1 N 24 0 t (C 7 t 3 + 1)) 36 0 j = C 10 j 1 := by rw [qx_un (by omega)]; exact k36
    have cv : (fj_u1 C 7 t 3 (C 7 t 3 + 1)) 10 j 1 = C 10 j 1 := qx_un (by omega)
    refine Or.inr (Or.inr ⟨C, _, _, _, c0, fun N0 => rfl, fun N0 => ?_, fun C0 => ?_, fun C0 => qn_spread0 (by (repeat rw [qx_un (by omega)]); exact h27) C0, qR_mono (qR_push (v := C 10 j 1) (d0 := d) c4 hg (qR_place (v := C 7 t 3 + 1) hR ht) ht) (Nat.le_succ b), by repeat rw [qx_un (by omega)]⟩)
    · have p1 := qk_push (M := (fj_u1 C 7 t 3 (C 7 t 3 + 1), N0)) (i := t) (d := d) (x := C 10 j 1) c4 hg
      simp (decide := true) only [dm_64, dm_3, dm_3_12, ↓reduceIte, Option.bind_some, dm_70, qg38_i hj, qz1, qx_cl (j := j) (show j ≤ 1000000 by omega), qx_neg (n := j) (show j ≤ 100000000 by omega), Nat.not_le.mpr hj, or_self, cv, p1]
    · rw [n102]
      simp (decide := true) only [dm_102_117, dm_102_145, dm_102_164, dm_102_181, dm_102_193, dm_102_211, dm_102_215, dm_102_216, dm_102_245, dm_102_267, dm_102_271, dm_102_272, dm_102_298, dm_102_306, dm_102_341, dm_102_358, dm_102_388, dm_102_411, dm_78, dm_87, ↓reduceIte, Option.bind_some, qz1, dm_109, dm_109_24, dm_109_29, dm_109_47, dm_109_66, dm_109_87, qx_cl (j := t) (show t ≤ 1000000 by omega), qx_neg (n := t) (show t ≤ 100000000 by omega), Nat.not_le.mpr ht, or_self, ha0, ha1, h25, if_neg hne24, qn_114z (o := 44) (fun _ => rfl) hX0, dm_112, qx_cl (j := j) (show j ≤ 1000000 by omega), qx_neg (n := j) (show j ≤ 100000000 by omega), Nat.not_le.mpr hj, or_self, ev, qn_gives0 (C0 := C0) (N1 := fj_u1 N 24 0 t (C 7 t 3 + 1)) (e := d) (v := C 10 j 1) ht hg e25]
  · have hd24 : d = 24 := by omega
    have h24d : N 25 0 t = 24 := by rw [h25, hd24]; rfl
    refine Or.inl ⟨3, by decide, by decide, fun N0 => by rw [c45]; exact qk_45 (fun _ => rfl) (fun N0 => by rw [show dm_57 44 (nI j) (C, N0) = (dm_38 (nI j) (C, N0)).bind (fun q2 => if q2.1 = 0 then some (1, q2.2) else some (0, q2.2)) from rfl, qg38_i hj]; rfl) (by decide) (qk_over1 (o := 44) (k := 0) (g := 1) (fun _ => rfl) (by decide) (fun _ => rfl) hX0 (by omega) (by omega) (by omega)) (Or.inr ⟨rfl, rfl⟩) N0, fun C0 => ?_⟩
    rw [n102]; simp (decide := true) only [dm_102_117, dm_102_145, dm_102_164, dm_102_181, dm_102_193, dm_102_211, dm_102_215, dm_102_216, dm_102_245, dm_102_267, dm_102_271, dm_102_272, dm_102_298, dm_102_306, dm_102_341, dm_102_358, dm_102_388, dm_102_411, dm_78, dm_87, ↓reduceIte, Option.bind_some, qz1, dm_109, dm_109_24, dm_109_29, dm_109_47, dm_109_66, dm_109_87, qx_cl (j := t) (show t ≤ 1000000 by omega), qx_neg (n := t) (show t ≤ 100000000 by omega), Nat.not_le.mpr ht, or_self, ha0, ha1, h24d]
theorem qk_55_45 {e : Nat} {v : Int32} (hX : qX b C N t (e + 1) r) (hv : (C 8 t e < 0 ∧ v = 1) ∨ (¬ C 8 t e < 0 ∧ ¬ C 8 t e < nI e ∧ v = 1) ∨ (¬ C 8 t e < 0 ∧ C 8 t e < nI e ∧ v = 0)) (N0 : fj_N) : dm_55 t 45 (C, N0) = some (v, (C, N0)) := by
  obtain ⟨-, ⟨h4, hd, -, -⟩, -⟩ := hX
  have h1 : nI 1 ≤ nI (e + 1) := (qx_le (a := 1) (b := e + 1) (by omega) (by omega)).mpr (by omega)
  have d4 : ∀ M : fj_M, dm_4 45 M = some (nI 1, M) := fun _ => rfl
  have b0 := qk_below0 (M := (C, N0)) (d := e) h4 (by omega)
  rcases hv with ⟨h2, rfl⟩ | ⟨h2, h3, rfl⟩ | ⟨h2, h3, rfl⟩
  · simp (decide := true) only [dm_55, d4, h4, Option.bind_some, if_pos h1, ↓reduceIte, b0, if_pos h2]
  · simp (decide := true) only [dm_55, d4, h4, Option.bind_some, if_pos h1, ↓reduceIte, b0, if_neg h2, nI_pred, if_neg h3]
  · simp (decide := true) only [dm_55, d4, h4, Option.bind_some, if_pos h1, ↓reduceIte, b0, if_neg h2, nI_pred, if_pos h3]
theorem qk_few45 {e : Nat} (h55 : ∀ N0 : fj_N, dm_55 t 45 (C, N0) = some (1, (C, N0))) (N0 : fj_N) : dm_54 t 45 a (C, N0) = some (2, (C, N0)) := by
  have d2 : ∀ M : fj_M, dm_2 45 M = some (1, M) := fun _ => rfl
  simp only [dm_54, d2, Option.bind_some, ↓reduceIte, qz1, h55]
theorem qo_45 (hX : qX b C N t d r) : qY b C N t 45 a (qg t pl 45 a) := by
  by_cases hk : d < 1
  · exact Or.inl ⟨2, by decide, by decide, qk_few (o := 45) (k := 1) (fun _ => rfl) (fun _ => rfl) (by omega) hX hk, qn_few (o := 45) (k := 1) (fun _ => rfl) (by omega) hX hk⟩
  obtain ⟨e, rfl⟩ : ∃ e, d = e + 1 := ⟨d - 1, by omega⟩
  have hX0 := hX
  obtain ⟨⟨hb, hR, h27, h8, ht, hs⟩, ⟨h4, hd, h5, hr⟩, h24, h25, h27r, hst, hrt⟩ := hX
  have c4 : (fj_u1 C 7 t 3 (C 7 t 3 + 1)) 7 t 4 = nI (e + 1) := by rw [qx_un (by omega)]; exact h4
  have e25 : (fj_u1 N 24 0 t (C 7 t 3 + 1)) 25 0 t = nI (e + 1) := by rw [qx_un (by omega)]; exact h25
  have c8 : ∀ j, (fj_u1 C 7 t 3 (C 7 t 3 + 1)) 8 t j = C 8 t j := fun j => qx_un (by omega)
  have n102 := qn_go1 (o := 45) (a := a) (pl := pl) (fun _ => rfl) (by decide) hX0
  rcases qx_ix (C 8 t e) (n := e) (by omega) with h | h | ⟨m, hm, hx⟩
  · exact Or.inl ⟨2, by decide, by decide, qk_few45 (e := e) (qk_55_45 hX0 (Or.inl ⟨h, rfl⟩)), fun C0 => by rw [n102]; simp (decide := true) only [dm_102_117, dm_102_145, dm_102_164, dm_102_181, dm_102_193, dm_102_211, dm_102_215, dm_102_216, dm_102_245, dm_102_267, dm_102_271, dm_102_272, dm_102_298, dm_102_306, dm_102_341, dm_102_358, dm_102_388, dm_102_411, dm_78, dm_87, ↓reduceIte, Option.bind_some, qz1, dm_109, dm_109_24, dm_109_29, dm_109_47, dm_109_66, dm_109_87, qx_cl (j := t) (show t ≤ 1000000 by omega), qx_neg (n := t) (show t ≤ 100000000 by omega), Nat.not_le.mpr ht, or_self, h]⟩
  · have h1 : ¬ C 8 t e < nI e := qx_lt_not h.2
    have h2 : ¬ C 8 t e ≤ nI (e + 1) - 2 := fun q => by
      have q1 := h.2
      rw [Int32.le_iff_toInt_le] at q q1
      rw [show (2 : Int32) = nI 2 from rfl, pk_sub_toInt (by omega) (by omega)] at q
      rw [nI_toInt (by omega)] at q1
      omega
    exact Or.inl ⟨2, by decide, by decide, qk_few45 (e := e) (qk_55_45 hX0 (Or.inr (Or.inl ⟨h.1, h1, rfl⟩))), fun C0 => by rw [n102]; simp (decide := true) only [dm_102_117, dm_102_145, dm_102_164, dm_102_181, dm_102_193, dm_102_211, dm_102_215, dm_102_216, dm_102_245, dm_102_267, dm_102_271, dm_102_272, dm_102_298, dm_102_306, dm_102_341, dm_102_358, dm_102_388, dm_102_411, dm_78, dm_87, ↓reduceIte, Option.bind_some, qz1, dm_109, dm_109_24, dm_109_29, dm_109_47, dm_109_66, dm_109_87, qx_cl (j := t) (show t ≤ 1000000 by omega), qx_neg (n := t) (show t ≤ 100000000 by omega), Nat.not_le.mpr ht, or_self, h.1, h25, if_neg h2]⟩
  have h0 : ¬ C 8 t e < 0 := by rw [hx]; exact qx_neg (by omega)
  have h1 : C 8 t e < nI e := by rw [hx]; exact (qx_lt (by omega) (by omega)).mpr hm
  have h2 : nI m ≤ nI (e + 1) - 2 := by
    rw [show (2 : Int32) = nI 2 from rfl, qx_sub (by omega)]
    exact (qx_le (by omega) (by omega)).mpr (by omega)
  have ha0 : ¬ nI m < 0 := qx_neg (by omega)
  have h55 := qk_55_45 (v := 0) hX0 (Or.inr (Or.inr ⟨h0, h1, rfl⟩))
  have c45 : ∀ N0 : fj_N, dm_54 t 45 a (C, N0) = dm_54_45 t 45 a (C 8 t e) (C, N0) := fun N0 => by
    have h := qk_54 (o := 45) (a := a) (fun _ => rfl) h55 (by decide) hX0 N0
    rw [qtop_s] at h
    exact h
  have c0 : ∀ N0 : fj_N, dm_54 t 45 a (C, N0) = some (0, (C, N0)) := fun N0 => by
    rw [c45]
    exact qk_45 (fun _ => rfl) (fun _ => rfl) (by decide) (qk_over0 (o := 45) (k := 1) (g := 1) (fun _ => rfl) (by decide) (fun _ => rfl) hX0 (by omega) (by omega) (by omega)) (Or.inl ⟨rfl, rfl⟩) N0
  have st : ∀ j, j < e → (fj_u1 (fj_u1 N 24 0 t (C 7 t 3 + 1)) 25 0 t (nI e)) 26 0 (24 * t + j) = C 8 t j := fun j hj => by rw [qx_un (by omega), qx_un (by omega)]; exact hst j (by omega)
  have c8b : ∀ j, (fj_u1 (fj_u1 C 7 t 3 (C 7 t 3 + 1)) 7 t 4 (nI e)) 8 t j = C 8 t j := fun j => by rw [qx_un (by omega), qx_un (by omega)]
  refine Or.inr (Or.inr ⟨C, _, _, _, c0, fun N0 => rfl, fun N0 => ?_, fun C0 => ?_, fun C0 => qn_spread0 (by (repeat rw [qx_un (by omega)]); exact h27) C0, qR_mono (qR_push (v := C 8 t (e - 1 - m)) (d0 := e) (qx_us _ _ _ _ _) (by omega) (qR_pop (d0 := e + 1) (e0 := e) c4 hd (by omega) (qR_place (v := C 7 t 3 + 1) hR ht) ht) ht) (Nat.le_succ b), by repeat rw [qx_un (by omega)]⟩)
  · have p1 := qk_pop (M := (fj_u1 C 7 t 3 (C 7 t 3 + 1), N0)) (i := t) (d := e) c4 (by omega)
    have p2 := qk_belowk (M := (fj_u1 (fj_u1 C 7 t 3 (C 7 t 3 + 1)) 7 t 4 (nI e), N0)) (i := t) (d := e) (k := m) (qx_us _ _ _ _ _) (by omega) hm
    have p3 := qk_push (M := (fj_u1 (fj_u1 C 7 t 3 (C 7 t 3 + 1)) 7 t 4 (nI e), N0)) (i := t) (d := e) (x := C 8 t (e - 1 - m)) (qx_us _ _ _ _ _) (by omega)
    simp (decide := true) only [dm_64, dm_3, dm_3_12, ↓reduceIte, Option.bind_some, dm_74, p1, c8, hx, p2, c8b, p3]
  · have q1 := qn_top (C := C) (C0 := C0) (N := fj_u1 (fj_u1 N 24 0 t (C 7 t 3 + 1)) 25 0 t (nI e)) (d := e) (j := m) ht (by omega) (qx_us _ _ _ _ _) st hm
    rw [n102]
    simp (decide := true) only [dm_102_117, dm_102_145, dm_102_164, dm_102_181, dm_102_193, dm_102_211, dm_102_215, dm_102_216, dm_102_245, dm_102_267, dm_102_271, dm_102_272, dm_102_298, dm_102_306, dm_102_341, dm_102_358, dm_102_388, dm_102_411, dm_78, dm_87, ↓reduceIte, Option.bind_some, qz1, dm_109, dm_109_24, dm_109_29, dm_109_47, dm_109_66, dm_109_87, qx_cl (j := t) (show t ≤ 1000000 by omega), qx_neg (n := t) (show t ≤ 100000000 by omega), Nat.not_le.mpr ht, or_self, hx, ha0, h25, if_pos h2, qn_114 (o := 45) (k := 1) (e := e) (fun _ => rfl) hX0, dm_112, q1, qn_gives0 (C0 := C0) (N1 := fj_u1 (fj_u1 N 24 0 t (C 7 t 3 + 1)) 25 0 t (nI e)) (e := e) (v := C 8 t (e - 1 - m)) ht (by omega) (qx_us _ _ _ _ _)]
end QO5
