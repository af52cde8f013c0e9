/-! OPS THAT JUMP, AND OF MEMORY -/
section QO3
variable {b : Nat} {C N : fj_N} {t d r : Nat} {a pl : Int32}
/-- the reference's way to the other ops -/
theorem qn_114z {C0 : fj_N} {o x y a6 : Int32} (ho : ∀ M : fj_M, dm_99 o M = some (nI 0, M)) (hX : qX b C N t d r) : dm_109_114 (nI t) o a x y a6 (C0, N) = (if 24 ≤ o then (if 30 ≤ o then ((dm_112 (nI t) o a x (C0, fj_u1 N 24 0 t (C 7 t 3 + 1))).bind fun q8 => some (0, q8)) else ((dm_111 (nI t) o a x y (C0, fj_u1 N 24 0 t (C 7 t 3 + 1))).bind fun q9 => some (0, q9))) else ((dm_110 (nI t) o a x (C0, fj_u1 N 24 0 t (C 7 t 3 + 1))).bind fun q10 => some (0, q10))) := by
  obtain ⟨⟨hb, hR, h27, h8, ht, hs⟩, ⟨h4, hd, h5, hr⟩, h24, h25, h27r, hst, hrt⟩ := hX
  have e25 : (fj_u1 N 24 0 t (C 7 t 3 + 1)) 25 0 t = nI d := by rw [qx_un (by omega)]; exact h25
  have e1 : nI d - nI 0 = nI d := by rw [qx_sub (by omega)]; congr 1
  have e2 : fj_u1 (fj_u1 N 24 0 t (C 7 t 3 + 1)) 25 0 t (nI d) = fj_u1 N 24 0 t (C 7 t 3 + 1) := by rw [← e25]; exact qx_self _ _ _ _
  simp only [dm_109_114, qx_cl (j := t) (show t ≤ 1000000 by omega), qx_neg (n := t) (show t ≤ 100000000 by omega), Nat.not_le.mpr ht, or_self, ↓reduceIte, ho, Option.bind_some, h24, e25, e1, e2]
theorem qn_114 {C0 : fj_N} {o x y a6 : Int32} {e k : Nat} (ho : ∀ M : fj_M, dm_99 o M = some (nI k, M)) (hX : qX b C N t (e + k) r) : dm_109_114 (nI t) o a x y a6 (C0, N) = (if 24 ≤ o then (if 30 ≤ o then ((dm_112 (nI t) o a x (C0, fj_u1 (fj_u1 N 24 0 t (C 7 t 3 + 1)) 25 0 t (nI e))).bind fun q8 => some (0, q8)) else ((dm_111 (nI t) o a x y (C0, fj_u1 (fj_u1 N 24 0 t (C 7 t 3 + 1)) 25 0 t (nI e))).bind fun q9 => some (0, q9))) else ((dm_110 (nI t) o a x (C0, fj_u1 (fj_u1 N 24 0 t (C 7 t 3 + 1)) 25 0 t (nI e))).bind fun q10 => some (0, q10))) := by
  obtain ⟨⟨hb, hR, h27, h8, ht, hs⟩, ⟨h4, hd, h5, hr⟩, h24, h25, h27r, hst, hrt⟩ := hX
  have e25 : (fj_u1 N 24 0 t (C 7 t 3 + 1)) 25 0 t = nI (e + k) := by rw [qx_un (by omega)]; exact h25
  have e1 : nI (e + k) - nI k = nI e := by rw [qx_sub (by omega)]; congr 1; omega
  simp only [dm_109_114, qx_cl (j := t) (show t ≤ 1000000 by omega), qx_neg (n := t) (show t ≤ 100000000 by omega), Nat.not_le.mpr ht, or_self, ↓reduceIte, ho, Option.bind_some, h24, e25, e1]
theorem qo_20 (hX : qX b C N t d r) : qY b C N t 20 a (qg t pl 20 a) := by
  have hX0 := hX
  obtain ⟨⟨hb, hR, h27, h8, ht, hs⟩, ⟨h4, hd, h5, hr⟩, h24, h25, h27r, hst, hrt⟩ := hX
  have c4 : (fj_u1 C 7 t 3 (C 7 t 3 + 1)) 7 t 4 = nI d := by rw [qx_un (by omega)]; exact h4
  have e25 : (fj_u1 N 24 0 t (C 7 t 3 + 1)) 25 0 t = nI d := by rw [qx_un (by omega)]; exact h25
  have c8 : ∀ j, (fj_u1 C 7 t 3 (C 7 t 3 + 1)) 8 t j = C 8 t j := fun j => qx_un (by omega)
  have h55 := qk_55 (o := 20) (k := 0) (fun _ => rfl) (by decide) (by decide) hX0 (by omega)
  have c45 : ∀ N0 : fj_N, dm_54 t 20 a (C, N0) = dm_54_45 t 20 a (qtop C t d) (C, N0) := fun N0 => by
    have h := qk_54 (o := 20) (a := a) (fun _ => rfl) h55 (by decide) hX0 N0
    exact h
  have n102 := qn_go0 (o := 20) (a := a) (pl := pl) (fun _ => rfl) (by decide) hX0
  rcases qx_ix a (n := 512) (by decide) with h | h | ⟨j, hj, rfl⟩
  · exact Or.inl ⟨5, by decide, by decide, fun N0 => by rw [c45]; exact qk_45_5 (fun N0 => by rw [show dm_56 20 a (qtop C t d) (C, N0) = (dm_35 a (C, N0)).bind (fun q2 => if q2.1 = 0 then some (1, q2.2) else some (0, q2.2)) from rfl, qg35_o (Or.inl h)]; rfl) N0, fun C0 => by rw [n102]; simp (decide := true) only [dm_102_117, dm_102_145, dm_102_164, dm_102_181, dm_102_193, dm_102_211, dm_102_215, dm_102_216, dm_102_245, dm_102_267, dm_102_271, dm_102_272, dm_102_298, dm_102_306, dm_102_341, dm_102_358, dm_102_388, dm_102_411, dm_78, dm_87, ↓reduceIte, Option.bind_some, qz1, dm_109, dm_109_24, dm_109_29, dm_109_47, dm_109_66, dm_109_87, qx_cl (j := t) (show t ≤ 1000000 by omega), qx_neg (n := t) (show t ≤ 100000000 by omega), Nat.not_le.mpr ht, or_self, h]⟩
  · have h1 : (511 : Int32) < a := (qx_pred (n := 512) (by omega) (by omega)).mpr h.2
    exact Or.inl ⟨5, by decide, by decide, fun N0 => by rw [c45]; exact qk_45_5 (fun N0 => by rw [show dm_56 20 a (qtop C t d) (C, N0) = (dm_35 a (C, N0)).bind (fun q2 => if q2.1 = 0 then some (1, q2.2) else some (0, q2.2)) from rfl, qg35_o (Or.inr h)]; rfl) N0, fun C0 => by rw [n102]; simp (decide := true) only [dm_102_117, dm_102_145, dm_102_164, dm_102_181, dm_102_193, dm_102_211, dm_102_215, dm_102_216, dm_102_245, dm_102_267, dm_102_271, dm_102_272, dm_102_298, dm_102_306, dm_102_341, dm_102_358, dm_102_388, dm_102_411, dm_78, dm_87, ↓reduceIte, Option.bind_some, qz1, dm_109, dm_109_24, dm_109_29, dm_109_47, dm_109_66, dm_109_87, qx_cl (j := t) (show t ≤ 1000000 by omega), qx_neg (n := t) (show t ≤ 100000000 by omega), Nat.not_le.mpr ht, or_self, h.1, h1]⟩
  have ha0 : ¬ nI j < 0 := qx_neg (by omega)
  have ha1 : ¬ (511 : Int32) < nI j := fun q => by
    have := (qx_lt (a := 511) (b := j) (by omega) (by omega)).mp q
    omega
  have c0 : ∀ N0 : fj_N, dm_54 t 20 (nI j) (C, N0) = some (0, (C, N0)) := fun N0 => by
    rw [c45]
    exact qk_45 (fun N0 => by rw [show dm_56 20 (nI j) (qtop C t d) (C, N0) = (dm_35 (nI j) (C, N0)).bind (fun q2 => if q2.1 = 0 then some (1, q2.2) else some (0, q2.2)) from rfl, qg35_i hj]; rfl) (fun _ => rfl) (by decide) (qk_over0 (o := 20) (k := 0) (g := 0) (fun _ => rfl) (by decide) (fun _ => rfl) hX0 (by omega) (by omega) (by omega)) (Or.inl ⟨rfl, rfl⟩) N0
  refine Or.inr (Or.inr ⟨C, _, _, _, c0, fun N0 => rfl, fun N0 => ?_, fun C0 => ?_, fun C0 => qn_spread0 (by (repeat rw [qx_un (by omega)]); exact h27) C0, qR_mono (qR_place (v := nI j) (qR_place (v := C 7 t 3 + 1) hR ht) ht) (Nat.le_succ b), by repeat rw [qx_un (by omega)]⟩)
  · rfl
  · rw [n102]
    simp (decide := true) only [dm_102_117, dm_102_145, dm_102_164, dm_102_181, dm_102_193, dm_102_211, dm_102_215, dm_102_216, dm_102_245, dm_102_267, dm_102_271, dm_102_272, dm_102_298, dm_102_306, dm_102_341, dm_102_358, dm_102_388, dm_102_411, dm_78, dm_87, ↓reduceIte, Option.bind_some, qz1, dm_109, dm_109_24, dm_109_29, dm_109_47, dm_109_66, dm_109_87, qx_cl (j := t) (show t ≤ 1000000 by omega), qx_neg (n := t) (show t ≤ 100000000 by omega), Nat.not_le.mpr ht, or_self, ha0, ha1, qn_114z (o := 20) (fun _ => rfl) hX0, dm_110, dm_110_77, dm_110_102, dm_110_103]
theorem qo_21 (hX : qX b C N t d r) : qY b C N t 21 a (qg t pl 21 a) := by
  by_cases hk : d < 1
  · exact Or.inl ⟨2, by decide, by decide, qk_few (o := 21) (k := 1) (fun _ => rfl) (fun _ => rfl) (by omega) hX hk, qn_few (o := 21) (k := 1) (fun _ => rfl) (by omega) hX hk⟩
  obtain ⟨e, rfl⟩ : ∃ e, d = e + 1 := ⟨d - 1, by omega⟩
  have hX0 := hX
  obtain ⟨⟨hb, hR, h27, h8, ht, hs⟩, ⟨h4, hd, h5, hr⟩, h24, h25, h27r, hst, hrt⟩ := hX
  have c4 : (fj_u1 C 7 t 3 (C 7 t 3 + 1)) 7 t 4 = nI (e + 1) := by rw [qx_un (by omega)]; exact h4
  have e25 : (fj_u1 N 24 0 t (C 7 t 3 + 1)) 25 0 t = nI (e + 1) := by rw [qx_un (by omega)]; exact h25
  have c8 : ∀ j, (fj_u1 C 7 t 3 (C 7 t 3 + 1)) 8 t j = C 8 t j := fun j => qx_un (by omega)
  have h55 := qk_55 (o := 21) (k := 1) (fun _ => rfl) (by decide) (by decide) hX0 (by omega)
  have c45 : ∀ N0 : fj_N, dm_54 t 21 a (C, N0) = dm_54_45 t 21 a (C 8 t e) (C, N0) := fun N0 => by
    have h := qk_54 (o := 21) (a := a) (fun _ => rfl) h55 (by decide) hX0 N0
    rw [qtop_s] at h
    exact h
  have n102 := qn_go1 (o := 21) (a := a) (pl := pl) (fun _ => rfl) (by decide) hX0
  rcases qx_ix a (n := 512) (by decide) with h | h | ⟨j, hj, rfl⟩
  · exact Or.inl ⟨5, by decide, by decide, fun N0 => by rw [c45]; exact qk_45_5 (fun N0 => by rw [show dm_56 21 a (C 8 t e) (C, N0) = (dm_35 a (C, N0)).bind (fun q2 => if q2.1 = 0 then some (1, q2.2) else some (0, q2.2)) from rfl, qg35_o (Or.inl h)]; rfl) N0, fun C0 => by rw [n102]; simp (decide := true) only [dm_102_117, dm_102_145, dm_102_164, dm_102_181, dm_102_193, dm_102_211, dm_102_215, dm_102_216, dm_102_245, dm_102_267, dm_102_271, dm_102_272, dm_102_298, dm_102_306, dm_102_341, dm_102_358, dm_102_388, dm_102_411, dm_78, dm_87, ↓reduceIte, Option.bind_some, qz1, dm_109, dm_109_24, dm_109_29, dm_109_47, dm_109_66, dm_109_87, qx_cl (j := t) (show t ≤ 1000000 by omega), qx_neg (n := t) (show t ≤ 100000000 by omega), Nat.not_le.mpr ht, or_self, h]⟩
  · have h1 : (511 : Int32) < a := (qx_pred (n := 512) (by omega) (by omega)).mpr h.2
    exact Or.inl ⟨5, by decide, by decide, fun N0 => by rw [c45]; exact qk_45_5 (fun N0 => by rw [show dm_56 21 a (C 8 t e) (C, N0) = (dm_35 a (C, N0)).bind (fun q2 => if q2.1 = 0 then some (1, q2.2) else some (0, q2.2)) from rfl, qg35_o (Or.inr h)]; rfl) N0, fun C0 => by rw [n102]; simp (decide := true) only [dm_102_117, dm_102_145, dm_102_164, dm_102_181, dm_102_193, dm_102_211, dm_102_215, dm_102_216, dm_102_245, dm_102_267, dm_102_271, dm_102_272, dm_102_298, dm_102_306, dm_102_341, dm_102_358, dm_102_388, dm_102_411, dm_78, dm_87, ↓reduceIte, Option.bind_some, qz1, dm_109, dm_109_24, dm_109_29, dm_109_47, dm_109_66, dm_109_87, qx_cl (j := t) (show t ≤ 1000000 by omega), qx_neg (n := t) (show t ≤ 100000000 by omega), Nat.not_le.mpr ht, or_self, h.1, h1]⟩
  have ha0 : ¬ nI j < 0 := qx_neg (by omega)
  have ha1 : ¬ (511 : Int32) < nI j := fun q => by
    have := (qx_lt (a := 511) (b := j) (by omega) (by omega)).mp q
    omega
  have c0 : ∀ N0 : fj_N, dm_54 t 21 (nI j) (C, N0) = some (0, (C, N0)) := fun N0 => by
    rw [c45]
    exact qk_45 (fun N0 => by rw [show dm_56 21 (nI j) (C 8 t e) (C, N0) = (dm_35 (nI j) (C, N0)).bind (fun q2 => if q2.1 = 0 then some (1, q2.2) else some (0, q2.2)) from rfl, qg35_i hj]; rfl) (fun _ => rfl) (by decide) (qk_over0 (o := 21) (k := 1) (g := 0) (fun _ => rfl) (by decide) (fun _ => rfl) hX0 (by omega) (by omega) (by omega)) (Or.inl ⟨rfl, rfl⟩) N0
  by_cases hz : C 8 t e = 0
  · refine Or.inr (Or.inr ⟨C, _, _, _, c0, fun N0 => rfl, fun N0 => ?_, fun C0 => ?_, fun C0 => qn_spread0 (by (repeat rw [qx_un (by omega)]); exact h27) C0, qR_mono (qR_place (v := nI j) (qR_pop (d0 := e + 1) (e0 := e) c4 hd (by omega) (qR_place (v := C 7 t 3 + 1) hR ht) ht) ht) (Nat.le_succ b), by repeat rw [qx_un (by omega)]⟩)
    · have p1 := qk_pop (M := (fj_u1 C 7 t 3 (C 7 t 3 + 1), N0)) (i := t) (d := e) c4 (by omega)
      simp (decide := true) only [dm_64, dm_68, ↓reduceIte, Option.bind_some, p1, c8, hz]
    · rw [n102]
      simp (decide := true) only [dm_102_117, dm_102_145, dm_102_164, dm_102_181, dm_102_193, dm_102_211, dm_102_215, dm_102_216, dm_102_245, dm_102_267, dm_102_271, dm_102_272, dm_102_298, dm_102_306, dm_102_341, dm_102_358, dm_102_388, dm_102_411, dm_78, dm_87, ↓reduceIte, Option.bind_some, qz1, dm_109, dm_109_24, dm_109_29, dm_109_47, dm_109_66, dm_109_87, qx_cl (j := t) (show t ≤ 1000000 by omega), qx_neg (n := t) (show t ≤ 100000000 by omega), Nat.not_le.mpr ht, or_self, ha0, ha1, qn_114 (o := 21) (k := 1) (e := e) (fun _ => rfl) hX0, dm_110, dm_110_77, dm_110_102, dm_110_103, hz]
  · refine Or.inr (Or.inr ⟨C, _, _, _, c0, fun N0 => rfl, fun N0 => ?_, fun C0 => ?_, fun C0 => qn_spread0 (by (repeat rw [qx_un (by omega)]); exact h27) C0, qR_mono (qR_pop (d0 := e + 1) (e0 := e) c4 hd (by omega) (qR_place (v := C 7 t 3 + 1) hR ht) ht) (Nat.le_succ b), by repeat rw [qx_un (by omega)]⟩)
    · have p1 := qk_pop (M := (fj_u1 C 7 t 3 (C 7 t 3 + 1), N0)) (i := t) (d := e) c4 (by omega)
      simp (decide := true) only [dm_64, dm_68, ↓reduceIte, Option.bind_some, p1, c8, if_neg hz, qx_self]
    · rw [n102]
      simp (decide := true) only [dm_102_117, dm_102_145, dm_102_164, dm_102_181, dm_102_193, dm_102_211, dm_102_215, dm_102_216, dm_102_245, dm_102_267, dm_102_271, dm_102_272, dm_102_298, dm_102_306, dm_102_341, dm_102_358, dm_102_388, dm_102_411, dm_78, dm_87, ↓reduceIte, Option.bind_some, qz1, dm_109, dm_109_24, dm_109_29, dm_109_47, dm_109_66, dm_109_87, qx_cl (j := t) (show t ≤ 1000000 by omega), qx_neg (n := t) (show t ≤ 100000000 by omega), Nat.not_le.mpr ht, or_self, ha0, ha1, qn_114 (o := 21) (k := 1) (e := e) (fun _ => rfl) hX0, dm_110, dm_110_77, dm_110_102, dm_110_103, if_neg hz, qx_self]
theorem qo_22 (hX : qX b C N t d r) : qY b C N t 22 a (qg t pl 22 a) := by
  have hX0 := hX
  obtain ⟨⟨hb, hR, h27, h8, ht, hs⟩, ⟨h4, hd, h5, hr⟩, h24, h25, h27r, hst, hrt⟩ := hX
  have c4 : (fj_u1 C 7 t 3 (C 7 t 3 + 1)) 7 t 4 = nI d := by rw [qx_un (by omega)]; exact h4
  have e25 : (fj_u1 N 24 0 t (C 7 t 3 + 1)) 25 0 t = nI d := by rw [qx_un (by omega)]; exact h25
  have c8 : ∀ j, (fj_u1 C 7 t 3 (C 7 t 3 + 1)) 8 t j = C 8 t j := fun j => qx_un (by omega)
  have h55 := qk_55 (o := 22) (k := 0) (fun _ => rfl) (by decide) (by decide) hX0 (by omega)
  have c45 : ∀ N0 : fj_N, dm_54 t 22 a (C, N0) = dm_54_45 t 22 a (qtop C t d) (C, N0) := fun N0 => by
    have h := qk_54 (o := 22) (a := a) (fun _ => rfl) h55 (by decide) hX0 N0
    exact h
  have n102 := qn_go0 (o := 22) (a := a) (pl := pl) (fun _ => rfl) (by decide) hX0
  rcases qx_ix a (n := 512) (by decide) with h | h | ⟨j, hj, rfl⟩
  · exact Or.inl ⟨5, by decide, by decide, fun N0 => by rw [c45]; exact qk_45_5 (fun N0 => by rw [show dm_56 22 a (qtop C t d) (C, N0) = (dm_35 a (C, N0)).bind (fun q2 => if q2.1 = 0 then some (1, q2.2) else some (0, q2.2)) from rfl, qg35_o (Or.inl h)]; rfl) N0, fun C0 => by rw [n102]; simp (decide := true) only [dm_102_117, dm_102_145, dm_102_164, dm_102_181, dm_102_193, dm_102_211, dm_102_215, dm_102_216, dm_102_245, dm_102_267, dm_102_271, dm_102_272, dm_102_298, dm_102_306, dm_102_341, dm_102_358, dm_102_388, dm_102_411, dm_78, dm_87, ↓reduceIte, Option.bind_some, qz1, dm_109, dm_109_24, dm_109_29, dm_109_47, dm_109_66, dm_109_87, qx_cl (j := t) (show t ≤ 1000000 by omega), qx_neg (n := t) (show t ≤ 100000000 by omega), Nat.not_le.mpr ht, or_self, h]⟩
  · have h1 : (511 : Int32) < a := (qx_pred (n := 512) (by omega) (by omega)).mpr h.2
    exact Or.inl ⟨5, by decide, by decide, fun N0 => by rw [c45]; exact qk_45_5 (fun N0 => by rw [show dm_56 22 a (qtop C t d) (C, N0) = (dm_35 a (C, N0)).bind (fun q2 => if q2.1 = 0 then some (1, q2.2) else some (0, q2.2)) from rfl, qg35_o (Or.inr h)]; rfl) N0, fun C0 => by rw [n102]; simp (decide := true) only [dm_102_117, dm_102_145, dm_102_164, dm_102_181, dm_102_193, dm_102_211, dm_102_215, dm_102_216, dm_102_245, dm_102_267, dm_102_271, dm_102_272, dm_102_298, dm_102_306, dm_102_341, dm_102_358, dm_102_388, dm_102_411, dm_78, dm_87, ↓reduceIte, Option.bind_some, qz1, dm_109, dm_109_24, dm_109_29, dm_109_47, dm_109_66, dm_109_87, qx_cl (j := t) (show t ≤ 1000000 by omega), qx_neg (n := t) (show t ≤ 100000000 by omega), Nat.not_le.mpr ht, or_self, h.1, h1]⟩
  have ha0 : ¬ nI j < 0 := qx_neg (by omega)
  have ha1 : ¬ (511 : Int32) < nI j := fun q => by
    have := (qx_lt (a := 511) (b := j) (by omega) (by omega)).mp q
    omega
  by_cases hr12 : r < 12
  · have h60 : ∀ N0 : fj_N, dm_60 t 22 (nI j) (C, N0) = some (0, (C, N0)) := fun N0 => by
      have h1 : nI r < 12 := (qx_lt (a := r) (b := 12) (by omega) (by omega)).mpr hr12
      simp (decide := true) only [dm_60, ↓reduceIte, h5, if_pos h1]
    have c0 : ∀ N0 : fj_N, dm_54 t 22 (nI j) (C, N0) = some (0, (C, N0)) := fun N0 => by
      rw [c45]
      exact qk_45 (fun N0 => by rw [show dm_56 22 (nI j) (qtop C t d) (C, N0) = (dm_35 (nI j) (C, N0)).bind (fun q2 => if q2.1 = 0 then some (1, q2.2) else some (0, q2.2)) from rfl, qg35_i hj]; rfl) (fun _ => rfl) (by decide) h60 (Or.inl ⟨rfl, rfl⟩) N0
    have c5 : (fj_u1 C 7 t 3 (C 7 t 3 + 1)) 7 t 5 = nI r := by rw [qx_un (by omega)]; exact h5
    have e27 : (fj_u1 N 24 0 t (C 7 t 3 + 1)) 27 0 t = nI r := by rw [qx_un (by omega)]; exact h27r
    have hne : ¬ nI r = 12 := fun q => by
      have := (qx_eq (a := r) (b := 12) (by omega) (by omega)).mp q
      omega
    have hw : 12 * t + r < 144 := by omega
    refine Or.inr (Or.inr ⟨C, _, _, _, c0, fun N0 => rfl, fun N0 => ?_, fun C0 => ?_, fun C0 => qn_spread0 (by (repeat rw [qx_un (by omega)]); exact h27) C0, qR_mono (qR_place (v := nI j) (qR_pushR (v := C 7 t 3 + 1) (d0 := r) c5 hr12 (qR_place (v := C 7 t 3 + 1) hR ht) ht) ht) (Nat.le_succ b), by repeat rw [qx_un (by omega)]⟩)
    · have p1 := qk_pushR (M := (fj_u1 C 7 t 3 (C 7 t 3 + 1), N0)) (i := t) (d := r) (x := C 7 t 3 + 1) c5 hr12
      simp (decide := true) only [dm_64, dm_68, ↓reduceIte, Option.bind_some, qx_us, p1]
    · have e3 : fj_u1 (fj_u1 N 24 0 t (C 7 t 3 + 1)) 28 0 (12 * t + r) (C 7 t 3 + 1) 27 0 t = nI r := by rw [qx_un (by omega)]; exact e27
      rw [n102]
      simp (decide := true) only [dm_102_117, dm_102_145, dm_102_164, dm_102_181, dm_102_193, dm_102_211, dm_102_215, dm_102_216, dm_102_245, dm_102_267, dm_102_271, dm_102_272, dm_102_298, dm_102_306, dm_102_341, dm_102_358, dm_102_388, dm_102_411, dm_78, dm_87, ↓reduceIte, Option.bind_some, qz1, dm_109, dm_109_24, dm_109_29, dm_109_47, dm_109_66, dm_109_87, qx_cl (j := t) (show t ≤ 1000000 by omega), qx_neg (n := t) (show t ≤ 100000000 by omega), Nat.not_le.mpr ht, or_self, ha0, ha1, h27r, if_neg hne, qn_114z (o := 22) (fun _ => rfl) hX0, dm_110, e27, qx_12, qx_add, qx_us]
      generalize 12 * t + r = w at *
      simp (decide := true) only [qx_cl (j := w) (show w ≤ 1000000 by omega), qx_neg (n := w) (show w ≤ 100000000 by omega), Nat.not_le.mpr hw, or_self, ↓reduceIte, e3, nI_1, dm_110_77, dm_110_102, dm_110_103, qx_cl (j := t) (show t ≤ 1000000 by omega), qx_neg (n := t) (show t ≤ 100000000 by omega), Nat.not_le.mpr ht, or_self, Option.bind_some]
  · have hr12 : r = 12 := by omega
    have h5z : C 7 t 5 = 12 := by rw [h5, hr12]; rfl
    have h27z : N 27 0 t = 12 := by rw [h27r, hr12]; rfl
    have h60 : ∀ N0 : fj_N, dm_60 t 22 (nI j) (C, N0) = some (1, (C, N0)) := fun N0 => by
      simp (decide := true) only [dm_60, ↓reduceIte, h5z]
    refine Or.inl ⟨3, by decide, by decide, fun N0 => by rw [c45]; exact qk_45 (fun N0 => by rw [show dm_56 22 (nI j) (qtop C t d) (C, N0) = (dm_35 (nI j) (C, N0)).bind (fun q2 => if q2.1 = 0 then some (1, q2.2) else some (0, q2.2)) from rfl, qg35_i hj]; rfl) (fun _ => rfl) (by decide) h60 (Or.inr ⟨rfl, rfl⟩) N0, fun C0 => ?_⟩
    rw [n102]; simp (decide := true) only [dm_102_117, dm_102_145, dm_102_164, dm_102_181, dm_102_193, dm_102_211, dm_102_215, dm_102_216, dm_102_245, dm_102_267, dm_102_271, dm_102_272, dm_102_298, dm_102_306, dm_102_341, dm_102_358, dm_102_388, dm_102_411, dm_78, dm_87, ↓reduceIte, Option.bind_some, qz1, dm_109, dm_109_24, dm_109_29, dm_109_47, dm_109_66, dm_109_87, qx_cl (j := t) (show t ≤ 1000000 by omega), qx_neg (n := t) (show t ≤ 100000000 by omega), Nat.not_le.mpr ht, or_self, ha0, ha1, h27z]
theorem qk_few23 (hX : qX b C N t d 0) (N0 : fj_N) : dm_54 t 23 a (C, N0) = some (2, (C, N0)) := by
  obtain ⟨⟨hb, hR, h27, h8, ht, hs⟩, ⟨h4, hd, h5, hr⟩, h24, h25, h27r, hst, hrt⟩ := hX
  have h1 : nI 0 ≤ nI d := (qx_le (a := 0) (b := d) (by omega) (by omega)).mpr (by omega)
  have d4 : ∀ M : fj_M, dm_4 23 M = some (nI 0, M) := fun _ => rfl
  have d2 : ∀ M : fj_M, dm_2 23 M = some (1, M) := fun _ => rfl
  have h55 : dm_55 t 23 (C, N0) = some (1, (C, N0)) := by
    have h5z : C 7 t 5 = 0 := h5
    simp only [dm_55, d4, Option.bind_some, h4, if_pos h1, ↓reduceIte, h5z]
  simp only [dm_54, d2, Option.bind_some, ↓reduceIte, qz1, h55]
theorem qn_few23 (hX : qX b C N t d 0) (C0 : fj_N) : qg t pl 23 a (C0, N) = some (2, (C0, N)) := by
  obtain ⟨⟨hb, hR, h27, h8, ht, hs⟩, ⟨h4, hd, h5, hr⟩, h24, h25, h27r, hst, hrt⟩ := hX
  have h1b : ¬ nI d < nI 0 := qx_lt_not ((qx_le (a := 0) (b := d) (by omega) (by omega)).mpr (by omega))
  have d99 : ∀ M : fj_M, dm_99 23 M = some (nI 0, M) := fun _ => rfl
  have h27z : N 27 0 t = 0 := h27r
  simp only [qg, d99, Option.bind_some, h25, if_neg h1b, ↓reduceIte, h27z]
theorem qk_55_23 {s : Nat} (hX : qX b C N t d (s + 1)) (N0 : fj_N) : dm_55 t 23 (C, N0) = some (0, (C, N0)) := by
  obtain ⟨⟨hb, hR, h27, h8, ht, hs⟩, ⟨h4, hd, h5, hr⟩, h24, h25, h27r, hst, hrt⟩ := hX
  have h1 : nI 0 ≤ nI d := (qx_le (a := 0) (b := d) (by omega) (by omega)).mpr (by omega)
  have d4 : ∀ M : fj_M, dm_4 23 M = some (nI 0, M) := fun _ => rfl
  have hne : ¬ nI (s + 1) = 0 := nI_ne0 (by omega) (by omega)
  simp only [d4, dm_55, h4, Option.bind_some, if_pos h1, ↓reduceIte, h5, if_neg hne]
theorem qn_goR {o : Int32} {s : Nat} (d99 : ∀ M : fj_M, dm_99 o M = some (nI 0, M)) (h23 : o = 23) (hX : qX b C N t d (s + 1)) (C0 : fj_N) : qg t pl o a (C0, N) = dm_102_117 (nI t) pl o a 0 0 (C0, N) := by
  obtain ⟨⟨hb, hR, h27, h8, ht, hs⟩, ⟨h4, hd, h5, hr⟩, h24, h25, h27r, hst, hrt⟩ := hX
  have h1b : ¬ nI d < nI 0 := qx_lt_not ((qx_le (a := 0) (b := d) (by omega) (by omega)).mpr (by omega))
  have hne : ¬ nI (s + 1) = 0 := nI_ne0 (by omega) (by omega)
  have h2 : nI 0 ≤ 0 := by decide
  have h3 : nI 0 ≤ 1 := by decide
  simp only [qg, d99, Option.bind_some, h25, if_neg h1b, if_pos h23, h27r, if_neg hne, dm_102_80, d99, Option.bind_some, if_pos h2, dm_102_97, if_pos h3]
theorem qo_23 (hX : qX b C N t d r) : qY b C N t 23 a (qg t pl 23 a) := by
  rcases Nat.eq_zero_or_pos r with rfl | hp
  · exact Or.inl ⟨2, by decide, by decide, qk_few23 hX, qn_few23 hX⟩
  · obtain ⟨s, rfl⟩ : ∃ s, r = s + 1 := ⟨r - 1, by omega⟩
    have hX0 := hX
    obtain ⟨⟨hb, hR, h27, h8, ht, hs⟩, ⟨h4, hd, h5, hr⟩, h24, h25, h27r, hst, hrt⟩ := hX
    have c45 : ∀ N0 : fj_N, dm_54 t 23 a (C, N0) = dm_54_45 t 23 a (qtop C t d) (C, N0) := fun N0 => qk_54 (o := 23) (a := a) (fun _ => rfl) (qk_55_23 hX0) (by decide) hX0 N0
    have n102 := qn_goR (o := 23) (a := a) (pl := pl) (fun _ => rfl) rfl hX0
    have c0 : ∀ N0 : fj_N, dm_54 t 23 a (C, N0) = some (0, (C, N0)) := fun N0 => by
      rw [c45]
      exact qk_45 (fun _ => rfl) (fun _ => rfl) (by decide) (qk_over0 (o := 23) (k := 0) (g := 0) (fun _ => rfl) (by decide) (fun _ => rfl) hX0 (by omega) (by omega) (by omega)) (Or.inl ⟨rfl, rfl⟩) N0
    have c5 : (fj_u1 C 7 t 3 (C 7 t 3 + 1)) 7 t 5 = nI (s + 1) := by rw [qx_un (by omega)]; exact h5
    have e27 : (fj_u1 N 24 0 t (C 7 t 3 + 1)) 27 0 t = nI (s + 1) := by rw [qx_un (by omega)]; exact h27r
    have c9 : ∀ j, (fj_u1 C 7 t 3 (C 7 t 3 + 1)) 9 t j = C 9 t j := fun j => qx_un (by omega)
    have hw : 12 * t + s < 144 := by omega
    have e28 : fj_u1 (fj_u1 N 24 0 t (C 7 t 3 + 1)) 27 0 t (nI s) 28 0 (12 * t + s) = C 9 t s := by rw [qx_un (by omega), qx_un (by omega)]; exact hrt s (by omega)
    refine Or.inr (Or.inr ⟨C, _, _, _, c0, fun N0 => rfl, fun N0 => ?_, fun C0 => ?_, fun C0 => qn_spread0 (by (repeat rw [qx_un (by omega)]); exact h27) C0, qR_mono (qR_place (v := C 9 t s) (qR_popR (d0 := s + 1) (e0 := s) c5 hr (by omega) (qR_place (v := C 7 t 3 + 1) hR ht) ht) ht) (Nat.le_succ b), by repeat rw [qx_un (by omega)]⟩)
    · have p1 := qk_popR (M := (fj_u1 C 7 t 3 (C 7 t 3 + 1), N0)) (i := t) (d := s) c5 (by omega)
      simp (decide := true) only [dm_64, dm_68, ↓reduceIte, Option.bind_some, p1, c9]
    · rw [n102]
      simp (decide := true) only [dm_102_117, dm_102_145, dm_102_164, dm_102_181, dm_102_193, dm_102_211, dm_102_215, dm_102_216, dm_102_245, dm_102_267, dm_102_271, dm_102_272, dm_102_298, dm_102_306, dm_102_341, dm_102_358, dm_102_388, dm_102_411, dm_78, dm_87, ↓reduceIte, Option.bind_some, qz1, dm_109, dm_109_24, dm_109_29, dm_109_47, dm_109_66, dm_109_87, qx_cl (j := t) (show t ≤ 1000000 by omega), qx_neg (n := t) (show t ≤ 100000000 by omega), Nat.not_le.mpr ht, or_self, qn_114z (o := 23) (fun _ => rfl) hX0, dm_110, e27, nI_pred, qx_us, qx_12, qx_add]
      generalize 12 * t + s = w at *
      simp (decide := true) only [qx_cl (j := w) (show w ≤ 1000000 by omega), qx_neg (n := w) (show w ≤ 100000000 by omega), Nat.not_le.mpr hw, or_self, ↓reduceIte, Option.bind_some, e28]
theorem qo_24 (hX : qX b C N t d r) : qY b C N t 24 a (qg t pl 24 a) := by
  have hX0 := hX
  obtain ⟨⟨hb, hR, h27, h8, ht, hs⟩, ⟨h4, hd, h5, hr⟩, h24, h25, h27r, hst, hrt⟩ := hX
  have c4 : (fj_u1 C 7 t 3 (C 7 t 3 + 1)) 7 t 4 = nI d := by rw [qx_un (by omega)]; exact h4
  have e25 : (fj_u1 N 24 0 t (C 7 t 3 + 1)) 25 0 t = nI d := by rw [qx_un (by omega)]; exact h25
  have c8 : ∀ j, (fj_u1 C 7 t 3 (C 7 t 3 + 1)) 8 t j = C 8 t j := fun j => qx_un (by omega)
  have h55 := qk_55 (o := 24) (k := 0) (fun _ => rfl) (by decide) (by decide) hX0 (by omega)
  have c45 : ∀ N0 : fj_N, dm_54 t 24 a (C, N0) = dm_54_45 t 24 a (qtop C t d) (C, N0) := fun N0 => by
    have h := qk_54 (o := 24) (a := a) (fun _ => rfl) h55 (by decide) hX0 N0
    exact h
  have n102 := qn_go0 (o := 24) (a := a) (pl := pl) (fun _ => rfl) (by decide) hX0
  rcases qx_ix a (n := 64) (by decide) with h | h | ⟨j, hj, rfl⟩
  · exact Or.inl ⟨5, by decide, by decide, fun N0 => by rw [c45]; exact qk_45_5 (fun N0 => by rw [show dm_56 24 a (qtop C t d) (C, N0) = (dm_36 a (C, N0)).bind (fun q2 => if q2.1 = 0 then some (1, q2.2) else some (0, q2.2)) from rfl, qg36_o (Or.inl h)]; rfl) N0, fun C0 => by rw [n102]; simp (decide := true) only [dm_102_117, dm_102_145, dm_102_164, dm_102_181, dm_102_193, dm_102_211, dm_102_215, dm_102_216, dm_102_245, dm_102_267, dm_102_271, dm_102_272, dm_102_298, dm_102_306, dm_102_341, dm_102_358, dm_102_388, dm_102_411, dm_78, dm_87, ↓reduceIte, Option.bind_some, qz1, dm_109, dm_109_24, dm_109_29, dm_109_47, dm_109_66, dm_109_87, qx_cl (j := t) (show t ≤ 1000000 by omega), qx_neg (n := t) (show t ≤ 100000000 by omega), Nat.not_le.mpr ht, or_self, h]⟩
  · have h1 : (63 : Int32) < a := (qx_pred (n := 64) (by omega) (by omega)).mpr h.2
    exact Or.inl ⟨5, by decide, by decide, fun N0 => by rw [c45]; exact qk_45_5 (fun N0 => by rw [show dm_56 24 a (qtop C t d) (C, N0) = (dm_36 a (C, N0)).bind (fun q2 => if q2.1 = 0 then some (1, q2.2) else some (0, q2.2)) from rfl, qg36_o (Or.inr h)]; rfl) N0, fun C0 => by rw [n102]; simp (decide := true) only [dm_102_117, dm_102_145, dm_102_164, dm_102_181, dm_102_193, dm_102_211, dm_102_215, dm_102_216, dm_102_245, dm_102_267, dm_102_271, dm_102_272, dm_102_298, dm_102_306, dm_102_341, dm_102_358, dm_102_388, dm_102_411, dm_78, dm_87, ↓reduceIte, Option.bind_some, qz1, dm_109, dm_109_24, dm_109_29, dm_109_47, dm_109_66, dm_109_87, qx_cl (j := t) (show t ≤ 1000000 by omega), qx_neg (n := t) (show t ≤ 100000000 by omega), Nat.not_le.mpr ht, or_self, h.1, h1]⟩
  have ha0 : ¬ nI j < 0 := qx_neg (by omega)
  have ha1 : ¬ (63 : Int32) < nI j := fun q => by
    have := (qx_lt (a := 63) (b := j) (by omega) (by omega)).mp q
    omega
  by_cases hg : d < 24
  · have c0 : ∀ N0 : fj_N, dm_54 t 24 (nI j) (C, N0) = some (0, (C, N0)) := fun N0 => by
      rw [c45]
      exact qk_45 (fun N0 => by rw [show dm_56 24 (nI j) (qtop C t d) (C, N0) = (dm_36 (nI j) (C, N0)).bind (fun q2 => if q2.1 = 0 then some (1, q2.2) else some (0, q2.2)) from rfl, qg36_i hj]; rfl) (fun _ => rfl) (by decide) (qk_over0 (o := 24) (k := 0) (g := 1) (fun _ => rfl) (by decide) (fun _ => rfl) hX0 (by omega) (by omega) (by omega)) (Or.inl ⟨rfl, rfl⟩) N0
    have hne24 : ¬ nI d = 24 := fun q => by
      have := (qx_eq (a := d) (b := 24) (by omega) (by omega)).mp q
      omega
    have e22 : (fj_u1 N 24 0 t (C 7 t 3 + 1)) 22 0 j = C 2 0 j := by rw [qx_un (by omega)]; exact hR.2.1.2.1 j hj
    have c2 : (fj_u1 C 7 t 3 (C 7 t 3 + 1)) 2 0 j = C 2 0 j := qx_un (by omega)
    refine Or.inr (Or.inr ⟨C, _, _, _, c0, fun N0 => rfl, fun N0 => ?_, fun C0 => ?_, fun C0 => qn_spread0 (by (repeat rw [qx_un (by omega)]); exact h27) C0, qR_mono (qR_push (v := C 2 0 j) (d0 := d) c4 hg (qR_place (v := C 7 t 3 + 1) hR ht) ht) (Nat.le_succ b), by repeat rw [qx_un (by omega)]⟩)
    · have p1 := qk_push (M := (fj_u1 C 7 t 3 (C 7 t 3 + 1), N0)) (i := t) (d := d) (x := C 2 0 j) c4 hg
      simp (decide := true) only [dm_64, dm_69, dm_69_12, dm_69_17, dm_69_32, dm_69_55, qg36_i hj, ↓reduceIte, qz1, Option.bind_some, qx_cl (j := j) (show j ≤ 1000000 by omega), qx_neg (n := j) (show j ≤ 100000000 by omega), Nat.not_le.mpr hj, or_self, c2, p1]
    · rw [n102]
      simp (decide := true) only [dm_102_117, dm_102_145, dm_102_164, dm_102_181, dm_102_193, dm_102_211, dm_102_215, dm_102_216, dm_102_245, dm_102_267, dm_102_271, dm_102_272, dm_102_298, dm_102_306, dm_102_341, dm_102_358, dm_102_388, dm_102_411, dm_78, dm_87, ↓reduceIte, Option.bind_some, qz1, dm_109, dm_109_24, dm_109_29, dm_109_47, dm_109_66, dm_109_87, qx_cl (j := t) (show t ≤ 1000000 by omega), qx_neg (n := t) (show t ≤ 100000000 by omega), Nat.not_le.mpr ht, or_self, ha0, ha1, h25, if_neg hne24, qn_114z (o := 24) (fun _ => rfl) hX0, dm_111, qx_cl (j := j) (show j ≤ 1000000 by omega), qx_neg (n := j) (show j ≤ 100000000 by omega), Nat.not_le.mpr hj, or_self, e22, qn_gives0 (C0 := C0) (N1 := fj_u1 N 24 0 t (C 7 t 3 + 1)) (e := d) (v := C 2 0 j) ht hg e25]
  · have hd24 : d = 24 := by omega
    have h24d : N 25 0 t = 24 := by rw [h25, hd24]; rfl
    refine Or.inl ⟨3, by decide, by decide, fun N0 => by rw [c45]; exact qk_45 (fun N0 => by rw [show dm_56 24 (nI j) (qtop C t d) (C, N0) = (dm_36 (nI j) (C, N0)).bind (fun q2 => if q2.1 = 0 then some (1, q2.2) else some (0, q2.2)) from rfl, qg36_i hj]; rfl) (fun _ => rfl) (by decide) (qk_over1 (o := 24) (k := 0) (g := 1) (fun _ => rfl) (by decide) (fun _ => rfl) hX0 (by omega) (by omega) (by omega)) (Or.inr ⟨rfl, rfl⟩) N0, fun C0 => ?_⟩
    rw [n102]; simp (decide := true) only [dm_102_117, dm_102_145, dm_102_164, dm_102_181, dm_102_193, dm_102_211, dm_102_215, dm_102_216, dm_102_245, dm_102_267, dm_102_271, dm_102_272, dm_102_298, dm_102_306, dm_102_341, dm_102_358, dm_102_388, dm_102_411, dm_78, dm_87, ↓reduceIte, Option.bind_some, qz1, dm_109, dm_109_24, dm_109_29, dm_109_47, dm_109_66, dm_109_87, qx_cl (j := t) (show t ≤ 1000000 by omega), qx_neg (n := t) (show t ≤ 100000000 by omega), Nat.not_le.mpr ht, or_self, ha0, ha1, h24d]
theorem qo_25 (hX : qX b C N t d r) : qY b C N t 25 a (qg t pl 25 a) := by
  by_cases hk : d < 1
  · exact Or.inl ⟨2, by decide, by decide, qk_few (o := 25) (k := 1) (fun _ => rfl) (fun _ => rfl) (by omega) hX hk, qn_few (o := 25) (k := 1) (fun _ => rfl) (by omega) hX hk⟩
  obtain ⟨e, rfl⟩ : ∃ e, d = e + 1 := ⟨d - 1, by omega⟩
  have hX0 := hX
  obtain ⟨⟨hb, hR, h27, h8, ht, hs⟩, ⟨h4, hd, h5, hr⟩, h24, h25, h27r, hst, hrt⟩ := hX
  have c4 : (fj_u1 C 7 t 3 (C 7 t 3 + 1)) 7 t 4 = nI (e + 1) := by rw [qx_un (by omega)]; exact h4
  have e25 : (fj_u1 N 24 0 t (C 7 t 3 + 1)) 25 0 t = nI (e + 1) := by rw [qx_un (by omega)]; exact h25
  have c8 : ∀ j, (fj_u1 C 7 t 3 (C 7 t 3 + 1)) 8 t j = C 8 t j := fun j => qx_un (by omega)
  have h55 := qk_55 (o := 25) (k := 1) (fun _ => rfl) (by decide) (by decide) hX0 (by omega)
  have c45 : ∀ N0 : fj_N, dm_54 t 25 a (C, N0) = dm_54_45 t 25 a (C 8 t e) (C, N0) := fun N0 => by
    have h := qk_54 (o := 25) (a := a) (fun _ => rfl) h55 (by decide) hX0 N0
    rw [qtop_s] at h
    exact h
  have n102 := qn_go1 (o := 25) (a := a) (pl := pl) (fun _ => rfl) (by decide) hX0
  rcases qx_ix a (n := 64) (by decide) with h | h | ⟨j, hj, rfl⟩
  · exact Or.inl ⟨5, by decide, by decide, fun N0 => by rw [c45]; exact qk_45_5 (fun N0 => by rw [show dm_56 25 a (C 8 t e) (C, N0) = (dm_36 a (C, N0)).bind (fun q2 => if q2.1 = 0 then some (1, q2.2) else some (0, q2.2)) from rfl, qg36_o (Or.inl h)]; rfl) N0, fun C0 => by rw [n102]; simp (decide := true) only [dm_102_117, dm_102_145, dm_102_164, dm_102_181, dm_102_193, dm_102_211, dm_102_215, dm_102_216, dm_102_245, dm_102_267, dm_102_271, dm_102_272, dm_102_298, dm_102_306, dm_102_341, dm_102_358, dm_102_388, dm_102_411, dm_78, dm_87, ↓reduceIte, Option.bind_some, qz1, dm_109, dm_109_24, dm_109_29, dm_109_47, dm_109_66, dm_109_87, qx_cl (j := t) (show t ≤ 1000000 by omega), qx_neg (n := t) (show t ≤ 100000000 by omega), Nat.not_le.mpr ht, or_self, h]⟩
  · have h1 : (63 : Int32) < a := (qx_pred (n := 64) (by omega) (by omega)).mpr h.2
    exact Or.inl ⟨5, by decide, by decide, fun N0 => by rw [c45]; exact qk_45_5 (fun N0 => by rw [show dm_56 25 a (C 8 t e) (C, N0) = (dm_36 a (C, N0)).bind (fun q2 => if q2.1 = 0 then some (1, q2.2) else some (0, q2.2)) from rfl, qg36_o (Or.inr h)]; rfl) N0, fun C0 => by rw [n102]; simp (decide := true) only [dm_102_117, dm_102_145, dm_102_164, dm_102_181, dm_102_193, dm_102_211, dm_102_215, dm_102_216, dm_102_245, dm_102_267, dm_102_271, dm_102_272, dm_102_298, dm_102_306, dm_102_341, dm_102_358, dm_102_388, dm_102_411, dm_78, dm_87, ↓reduceIte, Option.bind_some, qz1, dm_109, dm_109_24, dm_109_29, dm_109_47, dm_109_66, dm_109_87, qx_cl (j := t) (show t ≤ 1000000 by omega), qx_neg (n := t) (show t ≤ 100000000 by omega), Nat.not_le.mpr ht, or_self, h.1, h1]⟩
  have ha0 : ¬ nI j < 0 := qx_neg (by omega)
  have ha1 : ¬ (63 : Int32) < nI j := fun q => by
    have := (qx_lt (a := 63) (b := j) (by omega) (by omega)).mp q
    omega
  have c0 : ∀ N0 : fj_N, dm_54 t 25 (nI j) (C, N0) = some (0, (C, N0)) := fun N0 => by
    rw [c45]
    exact qk_45 (fun N0 => by rw [show dm_56 25 (nI j) (C 8 t e) (C, N0) = (dm_36 (nI j) (C, N0)).bind (fun q2 => if q2.1 = 0 then some (1, q2.2) else some (0, q2.2)) from rfl, qg36_i hj]; rfl) (fun _ => rfl) (by decide) (qk_over0 (o := 25) (k := 1) (g := 0) (fun _ => rfl) (by decide) (fun _ => rfl) hX0 (by omega) (by omega) (by omega)) (Or.inl ⟨rfl, rfl⟩) N0
  refine Or.inr (Or.inr ⟨C, _, _, _, c0, fun N0 => rfl, fun N0 => ?_, fun C0 => ?_, fun C0 => qn_spread0 (by (repeat rw [qx_un (by omega)]); exact h27) C0, qR_mono (qR_mem (j := j) (v := C 8 t e) (qR_pop (d0 := e + 1) (e0 := e) c4 hd (by omega) (qR_place (v := C 7 t 3 + 1) hR ht) ht) hj) (Nat.le_succ b), by repeat rw [qx_un (by omega)]⟩)
  · have p1 := qk_pop (M := (fj_u1 C 7 t 3 (C 7 t 3 + 1), N0)) (i := t) (d := e) c4 (by omega)
    simp (decide := true) only [dm_64, dm_69, dm_69_12, dm_69_17, dm_69_32, qg36_i hj, ↓reduceIte, qz1, Option.bind_some, qx_cl (j := j) (show j ≤ 1000000 by omega), qx_neg (n := j) (show j ≤ 100000000 by omega), Nat.not_le.mpr hj, or_self, p1, c8]
  · rw [n102]
    simp (decide := true) only [dm_102_117, dm_102_145, dm_102_164, dm_102_181, dm_102_193, dm_102_211, dm_102_215, dm_102_216, dm_102_245, dm_102_267, dm_102_271, dm_102_272, dm_102_298, dm_102_306, dm_102_341, dm_102_358, dm_102_388, dm_102_411, dm_78, dm_87, ↓reduceIte, Option.bind_some, qz1, dm_109, dm_109_24, dm_109_29, dm_109_47, dm_109_66, dm_109_87, qx_cl (j := t) (show t ≤ 1000000 by omega), qx_neg (n := t) (show t ≤ 100000000 by omega), Nat.not_le.mpr ht, or_self, ha0, ha1, qn_114 (o := 25) (k := 1) (e := e) (fun _ => rfl) hX0, dm_111, qx_cl (j := j) (show j ≤ 1000000 by omega), qx_neg (n := j) (show j ≤ 100000000 by omega), Nat.not_le.mpr hj, or_self]
theorem qo_26 (hX : qX b C N t d r) : qY b C N t 26 a (qg t pl 26 a) := by
  by_cases hk : d < 1
  · exact Or.inl ⟨2, by decide, by decide, qk_few (o := 26) (k := 1) (fun _ => rfl) (fun _ => rfl) (by omega) hX hk, qn_few (o := 26) (k := 1) (fun _ => rfl) (by omega) hX hk⟩
  obtain ⟨e, rfl⟩ : ∃ e, d = e + 1 := ⟨d - 1, by omega⟩
  have hX0 := hX
  obtain ⟨⟨hb, hR, h27, h8, ht, hs⟩, ⟨h4, hd, h5, hr⟩, h24, h25, h27r, hst, hrt⟩ := hX
  have c4 : (fj_u1 C 7 t 3 (C 7 t 3 + 1)) 7 t 4 = nI (e + 1) := by rw [qx_un (by omega)]; exact h4
  have e25 : (fj_u1 N 24 0 t (C 7 t 3 + 1)) 25 0 t = nI (e + 1) := by rw [qx_un (by omega)]; exact h25
  have c8 : ∀ j, (fj_u1 C 7 t 3 (C 7 t 3 + 1)) 8 t j = C 8 t j := fun j => qx_un (by omega)
  have h55 := qk_55 (o := 26) (k := 1) (fun _ => rfl) (by decide) (by decide) hX0 (by omega)
  have c45 : ∀ N0 : fj_N, dm_54 t 26 a (C, N0) = dm_54_45 t 26 a (C 8 t e) (C, N0) := fun N0 => by
    have h := qk_54 (o := 26) (a := a) (fun _ => rfl) h55 (by decide) hX0 N0
    rw [qtop_s] at h
    exact h
  have n102 := qn_go1 (o := 26) (a := a) (pl := pl) (fun _ => rfl) (by decide) hX0
  rcases qx_ix (C 8 t e) (n := 64) (by decide) with h | h | ⟨j, hj, hx⟩
  · exact Or.inl ⟨5, by decide, by decide, fun N0 => by rw [c45]; exact qk_45_5 (fun N0 => by rw [show dm_56 26 a (C 8 t e) (C, N0) = (dm_36 (C 8 t e) (C, N0)).bind (fun q2 => if q2.1 = 0 then some (1, q2.2) else some (0, q2.2)) from rfl, qg36_o (Or.inl h)]; rfl) N0, fun C0 => by rw [n102]; simp (decide := true) only [dm_102_117, dm_102_145, dm_102_164, dm_102_181, dm_102_193, dm_102_211, dm_102_215, dm_102_216, dm_102_245, dm_102_267, dm_102_271, dm_102_272, dm_102_298, dm_102_306, dm_102_341, dm_102_358, dm_102_388, dm_102_411, dm_78, dm_87, ↓reduceIte, Option.bind_some, qz1, dm_109, dm_109_24, dm_109_29, dm_109_47, dm_109_66, dm_109_87, qx_cl (j := t) (show t ≤ 1000000 by omega), qx_neg (n := t) (show t ≤ 100000000 by omega), Nat.not_le.mpr ht, or_self, h]⟩
  · have h1 : (63 : Int32) < (C 8 t e) := (qx_pred (n := 64) (by omega) (by omega)).mpr h.2
    exact Or.inl ⟨5, by decide, by decide, fun N0 => by rw [c45]; exact qk_45_5 (fun N0 => by rw [show dm_56 26 a (C 8 t e) (C, N0) = (dm_36 (C 8 t e) (C, N0)).bind (fun q2 => if q2.1 = 0 then some (1, q2.2) else some (0, q2.2)) from rfl, qg36_o (Or.inr h)]; rfl) N0, fun C0 => by rw [n102]; simp (decide := true) only [dm_102_117, dm_102_145, dm_102_164, dm_102_181, dm_102_193, dm_102_211, dm_102_215, dm_102_216, dm_102_245, dm_102_267, dm_102_271, dm_102_272, dm_102_298, dm_102_306, dm_102_341, dm_102_358, dm_102_388, dm_102_411, dm_78, dm_87, ↓reduceIte, Option.bind_some, qz1, dm_109, dm_109_24, dm_109_29, dm_109_47, dm_109_66, dm_109_87, qx_cl (j := t) (show t ≤ 1000000 by omega), qx_neg (n := t) (show t ≤ 100000000 by omega), Nat.not_le.mpr ht, or_self, h.1, h1]⟩
  have ha0 : ¬ nI j < 0 := qx_neg (by omega)
  have ha1 : ¬ (63 : Int32) < nI j := fun q => by
    have := (qx_lt (a := 63) (b := j) (by omega) (by omega)).mp q
    omega
  have c0 : ∀ N0 : fj_N, dm_54 t 26 a (C, N0) = some (0, (C, N0)) := fun N0 => by
    rw [c45]
    exact qk_45 (fun N0 => by rw [show dm_56 26 a (C 8 t e) (C, N0) = (dm_36 (C 8 t e) (C, N0)).bind (fun q2 => if q2.1 = 0 then some (1, q2.2) else some (0, q2.2)) from rfl, hx, qg36_i hj]; rfl) (fun _ => rfl) (by decide) (qk_over0 (o := 26) (k := 1) (g := 1) (fun _ => rfl) (by decide) (fun _ => rfl) hX0 (by omega) (by omega) (by omega)) (Or.inl ⟨rfl, rfl⟩) N0
  have e22 : (fj_u1 (fj_u1 N 24 0 t (C 7 t 3 + 1)) 25 0 t (nI e)) 22 0 j = C 2 0 j := by rw [qx_un (by omega), qx_un (by omega)]; exact hR.2.1.2.1 j hj
  have c2 : (fj_u1 (fj_u1 C 7 t 3 (C 7 t 3 + 1)) 7 t 4 (nI e)) 2 0 j = C 2 0 j := by rw [qx_un (by omega), qx_un (by omega)]
  refine Or.inr (Or.inr ⟨C, _, _, _, c0, fun N0 => rfl, fun N0 => ?_, fun C0 => ?_, fun C0 => qn_spread0 (by (repeat rw [qx_un (by omega)]); exact h27) C0, qR_mono (qR_push (v := C 2 0 j) (d0 := e) (qx_us _ _ _ _ _) (by omega) (qR_pop (d0 := e + 1) (e0 := e) c4 hd (by omega) (qR_place (v := C 7 t 3 + 1) hR ht) ht) ht) (Nat.le_succ b), by repeat rw [qx_un (by omega)]⟩)
  · have p1 := qk_pop (M := (fj_u1 C 7 t 3 (C 7 t 3 + 1), N0)) (i := t) (d := e) c4 (by omega)
    have p2 := qk_push (M := (fj_u1 (fj_u1 C 7 t 3 (C 7 t 3 + 1)) 7 t 4 (nI e), N0)) (i := t) (d := e) (x := C 2 0 j) (qx_us _ _ _ _ _) (by omega)
    simp (decide := true) only [dm_64, dm_69, dm_69_17, dm_69_32, dm_69_55, ↓reduceIte, qz1, Option.bind_some, p1, c8, hx, qg36_i hj, qx_cl (j := j) (show j ≤ 1000000 by omega), qx_neg (n := j) (show j ≤ 100000000 by omega), Nat.not_le.mpr hj, or_self, c2, p2]
  · rw [n102]
    simp (decide := true) only [dm_102_117, dm_102_145, dm_102_164, dm_102_181, dm_102_193, dm_102_211, dm_102_215, dm_102_216, dm_102_245, dm_102_267, dm_102_271, dm_102_272, dm_102_298, dm_102_306, dm_102_341, dm_102_358, dm_102_388, dm_102_411, dm_78, dm_87, ↓reduceIte, Option.bind_some, qz1, dm_109, dm_109_24, dm_109_29, dm_109_47, dm_109_66, dm_109_87, qx_cl (j := t) (show t ≤ 1000000 by omega), qx_neg (n := t) (show t ≤ 100000000 by omega), Nat.not_le.mpr ht, or_self, hx, ha0, ha1, qn_114 (o := 26) (k := 1) (e := e) (fun _ => rfl) hX0, dm_111, qx_cl (j := j) (show j ≤ 1000000 by omega), qx_neg (n := j) (show j ≤ 100000000 by omega), Nat.not_le.mpr hj, or_self, e22, qn_gives0 (C0 := C0) (N1 := fj_u1 (fj_u1 N 24 0 t (C 7 t 3 + 1)) 25 0 t (nI e)) (e := e) (v := C 2 0 j) ht (by omega) (qx_us _ _ _ _ _)]
theorem qo_27 (hX : qX b C N t d r) : qY b C N t 27 a (qg t pl 27 a) := by
  by_cases hk : d < 2
  · exact Or.inl ⟨2, by decide, by decide, qk_few (o := 27) (k := 2) (fun _ => rfl) (fun _ => rfl) (by omega) hX hk, qn_few (o := 27) (k := 2) (fun _ => rfl) (by omega) hX hk⟩
  obtain ⟨e, rfl⟩ : ∃ e, d = e + 2 := ⟨d - 2, by omega⟩
  have hX0 := hX
  obtain ⟨⟨hb, hR, h27, h8, ht, hs⟩, ⟨h4, hd, h5, hr⟩, h24, h25, h27r, hst, hrt⟩ := hX
  have c4 : (fj_u1 C 7 t 3 (C 7 t 3 + 1)) 7 t 4 = nI (e + 2) := by rw [qx_un (by omega)]; exact h4
  have e25 : (fj_u1 N 24 0 t (C 7 t 3 + 1)) 25 0 t = nI (e + 2) := by rw [qx_un (by omega)]; exact h25
  have c8 : ∀ j, (fj_u1 C 7 t 3 (C 7 t 3 + 1)) 8 t j = C 8 t j := fun j => qx_un (by omega)
  have h55 := qk_55 (o := 27) (k := 2) (fun _ => rfl) (by decide) (by decide) hX0 (by omega)
  have c45 : ∀ N0 : fj_N, dm_54 t 27 a (C, N0) = dm_54_45 t 27 a (C 8 t (e + 1)) (C, N0) := fun N0 => by
    have h := qk_54 (o := 27) (a := a) (fun _ => rfl) h55 (by decide) hX0 N0
    rw [qtop_s] at h
    exact h
  have n102 := qn_go2 (o := 27) (a := a) (pl := pl) (fun _ => rfl) (by decide) hX0
  rcases qx_ix (C 8 t (e + 1)) (n := 64) (by decide) with h | h | ⟨j, hj, hx⟩
  · exact Or.inl ⟨5, by decide, by decide, fun N0 => by rw [c45]; exact qk_45_5 (fun N0 => by rw [show dm_56 27 a (C 8 t (e + 1)) (C, N0) = (dm_36 (C 8 t (e + 1)) (C, N0)).bind (fun q2 => if q2.1 = 0 then some (1, q2.2) else some (0, q2.2)) from rfl, qg36_o (Or.inl h)]; rfl) N0, fun C0 => by rw [n102]; simp (decide := true) only [dm_102_117, dm_102_145, dm_102_164, dm_102_181, dm_102_193, dm_102_211, dm_102_215, dm_102_216, dm_102_245, dm_102_267, dm_102_271, dm_102_272, dm_102_298, dm_102_306, dm_102_341, dm_102_358, dm_102_388, dm_102_411, dm_78, dm_87, ↓reduceIte, Option.bind_some, qz1, dm_109, dm_109_24, dm_109_29, dm_109_47, dm_109_66, dm_109_87, qx_cl (j := t) (show t ≤ 1000000 by omega), qx_neg (n := t) (show t ≤ 100000000 by omega), Nat.not_le.mpr ht, or_self, h]⟩
  · have h1 : (63 : Int32) < (C 8 t (e + 1)) := (qx_pred (n := 64) (by omega) (by omega)).mpr h.2
    exact Or.inl ⟨5, by decide, by decide, fun N0 => by rw [c45]; exact qk_45_5 (fun N0 => by rw [show dm_56 27 a (C 8 t (e + 1)) (C, N0) = (dm_36 (C 8 t (e + 1)) (C, N0)).bind (fun q2 => if q2.1 = 0 then some (1, q2.2) else some (0, q2.2)) from rfl, qg36_o (Or.inr h)]; rfl) N0, fun C0 => by rw [n102]; simp (decide := true) only [dm_102_117, dm_102_145, dm_102_164, dm_102_181, dm_102_193, dm_102_211, dm_102_215, dm_102_216, dm_102_245, dm_102_267, dm_102_271, dm_102_272, dm_102_298, dm_102_306, dm_102_341, dm_102_358, dm_102_388, dm_102_411, dm_78, dm_87, ↓reduceIte, Option.bind_some, qz1, dm_109, dm_109_24, dm_109_29, dm_109_47, dm_109_66, dm_109_87, qx_cl (j := t) (show t ≤ 1000000 by omega), qx_neg (n := t) (show t ≤ 100000000 by omega), Nat.not_le.mpr ht, or_self, h.1, h1]⟩
  have ha0 : ¬ nI j < 0 := qx_neg (by omega)
  have ha1 : ¬ (63 : Int32) < nI j := fun q => by
    have := (qx_lt (a := 63) (b := j) (by omega) (by omega)).mp q
    omega
  have c0 : ∀ N0 : fj_N, dm_54 t 27 a (C, N0) = some (0, (C, N0)) := fun N0 => by
    rw [c45]
    exact qk_45 (fun N0 => by rw [show dm_56 27 a (C 8 t (e + 1)) (C, N0) = (dm_36 (C 8 t (e + 1)) (C, N0)).bind (fun q2 => if q2.1 = 0 then some (1, q2.2) else some (0, q2.2)) from rfl, hx, qg36_i hj]; rfl) (fun _ => rfl) (by decide) (qk_over0 (o := 27) (k := 2) (g := 0) (fun _ => rfl) (by decide) (fun _ => rfl) hX0 (by omega) (by omega) (by omega)) (Or.inl ⟨rfl, rfl⟩) N0
  refine Or.inr (Or.inr ⟨C, _, _, _, c0, fun N0 => rfl, fun N0 => ?_, fun C0 => ?_, fun C0 => qn_spread0 (by (repeat rw [qx_un (by omega)]); exact h27) C0, qR_mono (qR_mem (j := j) (v := C 8 t e) (qR_pop (d0 := e + 2) (e0 := e) c4 hd (by omega) (qR_place (v := C 7 t 3 + 1) hR ht) ht) hj) (Nat.le_succ b), by repeat rw [qx_un (by omega)]⟩)
  · have p1 := qk_pop (M := (fj_u1 C 7 t 3 (C 7 t 3 + 1), N0)) (i := t) (d := e + 1) c4 (by omega)
    have p2 := qk_pop (M := (fj_u1 (fj_u1 C 7 t 3 (C 7 t 3 + 1)) 7 t 4 (nI (e + 1)), N0)) (i := t) (d := e) (qx_us _ _ _ _ _) (by omega)
    have c8a : ∀ j, fj_u1 (fj_u1 C 7 t 3 (C 7 t 3 + 1)) 7 t 4 (nI (e + 1)) 8 t j = C 8 t j := fun j => by rw [qx_un (by omega), qx_un (by omega)]
    simp (decide := true) only [dm_64, dm_69, dm_69_17, dm_69_32, ↓reduceIte, qz1, Option.bind_some, p1, c8, hx, qg36_i hj, qx_cl (j := j) (show j ≤ 1000000 by omega), qx_neg (n := j) (show j ≤ 100000000 by omega), Nat.not_le.mpr hj, or_self, p2, c8a, qx_uu]
  · rw [n102]
    simp (decide := true) only [dm_102_117, dm_102_145, dm_102_164, dm_102_181, dm_102_193, dm_102_211, dm_102_215, dm_102_216, dm_102_245, dm_102_267, dm_102_271, dm_102_272, dm_102_298, dm_102_306, dm_102_341, dm_102_358, dm_102_388, dm_102_411, dm_78, dm_87, ↓reduceIte, Option.bind_some, qz1, dm_109, dm_109_24, dm_109_29, dm_109_47, dm_109_66, dm_109_87, qx_cl (j := t) (show t ≤ 1000000 by omega), qx_neg (n := t) (show t ≤ 100000000 by omega), Nat.not_le.mpr ht, or_self, hx, ha0, ha1, qn_114 (o := 27) (k := 2) (e := e) (fun _ => rfl) hX0, dm_111, qx_cl (j := j) (show j ≤ 1000000 by omega), qx_neg (n := j) (show j ≤ 100000000 by omega), Nat.not_le.mpr hj, or_self]
end QO3
