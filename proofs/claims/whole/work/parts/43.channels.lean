/-! OPS OF CHANNELS -/
section QO6
variable {b : Nat} {C N : fj_N} {t d r : Nat} {a pl : Int32}
theorem qx_goes {B : qB} {W N1 : fj_N} {l m : Nat} (h : qR B W N1) (hl : l < 6) (hn : W 10 l 1 = nI (m + 1)) (hm : m < 8) : ∃ G H : fj_N, (∀ N0 : fj_N, dm_1 l (W, N0) = some (W 11 l 0, (G, N0))) ∧ (∀ C0 : fj_N, dm_90 (nI l) (C0, N1) = some (W 11 l 0, (C0, H))) ∧ qR B G H ∧ (∀ κ i j, κ ≠ 10 → κ ≠ 11 → G κ i j = W κ i j) ∧ ∀ κ i j, κ ≠ 36 → κ ≠ 37 → H κ i j = N1 κ i j := by
  have h36 : N1 36 0 l = nI (m + 1) := (h.2.2.2 l hl).1.trans hn
  have hg := qR_goes h hl hn hm
  refine ⟨_, _, fun N0 => qk_remove hn hm, fun C0 => by rw [qn_goes hl h36 hm, hg.2], hg.1, fun κ i j h1 h2 => ?_, fun κ i j h1 h2 => ?_⟩
  · rw [qx_un (by omega)]
    exact if_neg (by omega)
  · have e1 : qsn (fj_u1 N1 36 0 l (nI m)) l m κ i j = fj_u1 N1 36 0 l (nI m) κ i j := if_neg (by omega)
    rw [e1, qx_un (by omega)]
theorem qh_ints_j {C : fj_N} {j : Nat} (hj : j < 6) : qh_ints C (nI j) ↔ ¬ C 10 j 1 ≤ 0 := by
  have h6 : ¬ (6 : Int32) ≤ nI j := fun q => by
    have := (qx_le (a := 6) (b := j) (by omega) (by omega)).mp q
    omega
  unfold qh_ints
  rw [qx_cl (by omega)]
  exact ⟨fun h => h.2.2, fun h => ⟨qx_neg (by omega), h6, h⟩⟩
theorem qh_room_j {C : fj_N} {j : Nat} (hj : j < 6) : qh_room C (nI j) ↔ ¬ C 10 j 2 ≤ C 10 j 1 := by
  have h6 : ¬ (6 : Int32) ≤ nI j := fun q => by
    have := (qx_le (a := 6) (b := j) (by omega) (by omega)).mp q
    omega
  unfold qh_room
  rw [qx_cl (by omega)]
  exact ⟨fun h => h.2.2, fun h => ⟨qx_neg (by omega), h6, h⟩⟩
/-- waiting, as the class sets it -/
def qwt (C : fj_N) (t : Nat) (s x y : Int32) : fj_N := fj_u1 (fj_u1 (fj_u1 C 7 t 2 s) 7 t 10 x) 7 t 11 y
theorem qwt_o {κ i j : Nat} {s x y : Int32} (h : ¬ (κ = 7 ∧ i = t ∧ (j = 2 ∨ j = 10 ∨ j = 11))) : qwt C t s x y κ i j = C κ i j := by
  unfold qwt
  rw [qx_un (by omega), qx_un (by omega), qx_un (by omega)]
theorem qwt_2 {s x y : Int32} : qwt C t s x y 7 t 2 = s := by
  unfold qwt
  rw [qx_un (by omega), qx_un (by omega), qx_us]
theorem qwt_10 {s x y : Int32} : qwt C t s x y 7 t 10 = x := by
  unfold qwt
  rw [qx_un (by omega), qx_us]
theorem qwt_11 {s x y : Int32} : qwt C t s x y 7 t 11 = y := by
  unfold qwt
  rw [qx_us]
theorem qwt_ints {s x y : Int32} {j : Nat} (hj : j < 6) : qh_ints (qwt C t s x y) (nI j) ↔ ¬ C 10 j 1 ≤ 0 := by
  rw [qh_ints_j hj, qwt_o (by omega)]
theorem qwt_room {s x y : Int32} {j : Nat} (hj : j < 6) : qh_room (qwt C t s x y) (nI j) ↔ ¬ C 10 j 2 ≤ C 10 j 1 := by
  rw [qh_room_j hj, qwt_o (by omega), qwt_o (by omega)]
theorem qo_31 (hX : qX b C N t d r) : qY b C N t 31 a (qg t pl 31 a) := by
  by_cases hk : d < 1
  · exact Or.inl ⟨2, by decide, by decide, qk_few (o := 31) (k := 1) (fun _ => rfl) (fun _ => rfl) (by omega) hX hk, qn_few (o := 31) (k := 1) (fun _ => rfl) (by omega) hX hk⟩
  obtain ⟨e, rfl⟩ : ∃ e, d = e + 1 := ⟨d - 1, by omega⟩
  have hX0 := hX
  obtain ⟨⟨hb, hR, h27, h8, ht, hs⟩, ⟨h4, hd, h5, hr⟩, h24, h25, h27r, hst, hrt⟩ := hX
  have c4 : (fj_u1 C 7 t 3 (C 7 t 3 + 1)) 7 t 4 = nI (e + 1) := by rw [qx_un (by omega)]; exact h4
  have e25 : (fj_u1 N 24 0 t (C 7 t 3 + 1)) 25 0 t = nI (e + 1) := by rw [qx_un (by omega)]; exact h25
  have c8 : ∀ j, (fj_u1 C 7 t 3 (C 7 t 3 + 1)) 8 t j = C 8 t j := fun j => qx_un (by omega)
  have h55 := qk_55 (o := 31) (k := 1) (fun _ => rfl) (by decide) (by decide) hX0 (by omega)
  have c45 : ∀ N0 : fj_N, dm_54 t 31 a (C, N0) = dm_54_45 t 31 a (C 8 t e) (C, N0) := fun N0 => by
    have h := qk_54 (o := 31) (a := a) (fun _ => rfl) h55 (by decide) hX0 N0
    rw [qtop_s] at h
    exact h
  have n102 := qn_go1 (o := 31) (a := a) (pl := pl) (fun _ => rfl) (by decide) hX0
  rcases qx_ix a (n := 6) (by decide) with h | h | ⟨j, hj, rfl⟩
  · exact Or.inl ⟨6, by decide, by decide, fun N0 => by rw [c45]; exact qk_45_6 (fun _ => rfl) (fun N0 => by rw [show dm_57 31 a (C, N0) = (dm_38 a (C, N0)).bind (fun q2 => if q2.1 = 0 then some (1, q2.2) else some (0, q2.2)) from rfl, qg38_o (Or.inl h)]; rfl) N0, fun C0 => by rw [n102]; simp (decide := true) only [dm_102_117, dm_102_145, dm_102_164, dm_102_181, dm_102_193, dm_102_211, dm_102_215, dm_102_216, dm_102_245, dm_102_267, dm_102_271, dm_102_272, dm_102_298, dm_102_306, dm_102_341, dm_102_358, dm_102_388, dm_102_411, dm_78, dm_87, ↓reduceIte, Option.bind_some, qz1, dm_109, dm_109_24, dm_109_29, dm_109_47, dm_109_66, dm_109_87, qx_cl (j := t) (show t ≤ 1000000 by omega), qx_neg (n := t) (show t ≤ 100000000 by omega), Nat.not_le.mpr ht, or_self, h]⟩
  · have h1 : (5 : Int32) < a := (qx_pred (n := 6) (by omega) (by omega)).mpr h.2
    exact Or.inl ⟨6, by decide, by decide, fun N0 => by rw [c45]; exact qk_45_6 (fun _ => rfl) (fun N0 => by rw [show dm_57 31 a (C, N0) = (dm_38 a (C, N0)).bind (fun q2 => if q2.1 = 0 then some (1, q2.2) else some (0, q2.2)) from rfl, qg38_o (Or.inr h)]; rfl) N0, fun C0 => by rw [n102]; simp (decide := true) only [dm_102_117, dm_102_145, dm_102_164, dm_102_181, dm_102_193, dm_102_211, dm_102_215, dm_102_216, dm_102_245, dm_102_267, dm_102_271, dm_102_272, dm_102_298, dm_102_306, dm_102_341, dm_102_358, dm_102_388, dm_102_411, dm_78, dm_87, ↓reduceIte, Option.bind_some, qz1, dm_109, dm_109_24, dm_109_29, dm_109_47, dm_109_66, dm_109_87, qx_cl (j := t) (show t ≤ 1000000 by omega), qx_neg (n := t) (show t ≤ 100000000 by omega), Nat.not_le.mpr ht, or_self, h.1, h1]⟩
  have ha0 : ¬ nI j < 0 := qx_neg (by omega)
  have ha1 : ¬ (5 : Int32) < nI j := fun q => by
    have := (qx_lt (a := 5) (b := j) (by omega) (by omega)).mp q
    omega
  obtain ⟨k36, k35, n, z, z1, z2, z3, z4, z5, z6⟩ := hR.2.2.2 j hj
  have c0 : ∀ N0 : fj_N, dm_54 t 31 (nI j) (C, N0) = some (0, (C, N0)) := fun N0 => by
    rw [c45]
    exact qk_45 (fun _ => rfl) (fun N0 => by rw [show dm_57 31 (nI j) (C, N0) = (dm_38 (nI j) (C, N0)).bind (fun q2 => if q2.1 = 0 then some (1, q2.2) else some (0, q2.2)) from rfl, qg38_i hj]; rfl) (by decide) (qk_over0 (o := 31) (k := 1) (g := 0) (fun _ => rfl) (by decide) (fun _ => rfl) hX0 (by omega) (by omega) (by omega)) (Or.inl ⟨rfl, rfl⟩) N0
  by_cases hnz : n = z
  · have hfull : C 10 j 2 ≤ C 10 j 1 := by rw [z4, z5, hnz]; exact Int32.le_refl _
    have hth : ¬ qh_there (qwt C t 2 (nI j) (nI j)) t := by
      rintro (⟨h, h2⟩ | ⟨h, h2⟩ | ⟨h, h2⟩ | ⟨h, h2⟩)
      · rw [qwt_10] at h2; exact (qwt_room hj).mp h2 hfull
      · rw [qwt_2] at h; exact absurd h (by decide)
      · rw [qwt_2] at h; exact absurd h (by decide)
      · rw [qwt_2] at h; exact absurd h (by decide)
    have k36b : N 36 0 j = nI z := by rw [k36, z4, hnz]
    have k35b : N 35 0 j = nI z := by rw [k35, z5]
    refine Or.inr (Or.inl ⟨qwt C t 2 (nI j) (nI j), _, c0, fun N0 => ?_, fun C0 => ?_, qR_mono (qR_wsend (c := j) hj hs hR ht) (Nat.le_succ b), by (repeat rw [qx_un (by omega)]); exact h27, by rw [qwt_o (by omega)]⟩)
    · have k0 := qk_there0 (M := (qwt C t 2 (nI j) (nI j), N0)) (i := t) hth
      unfold qwt at k0 ⊢
      simp (decide := true) only [dm_53, ↓reduceIte, Option.bind_some, dm_10, dm_53_100, k0]
    · rw [n102]
      simp (decide := true) only [dm_102_117, dm_102_145, dm_102_164, dm_102_181, dm_102_193, dm_102_211, dm_102_215, dm_102_216, dm_102_245, dm_102_267, dm_102_271, dm_102_272, dm_102_298, dm_102_306, dm_102_341, dm_102_358, dm_102_388, dm_102_411, dm_78, dm_87, ↓reduceIte, Option.bind_some, qz1, dm_107, dm_107_141, dm_107_156, dm_107_175, dm_107_192, dm_107_226, dm_107_237, dm_107_242, dm_107_287, dm_107_322, dm_107_218, dm_107_85, dm_107_99, dm_107_112, dm_108, dm_106, qx_cl (j := t) (show t ≤ 1000000 by omega), qx_neg (n := t) (show t ≤ 100000000 by omega), Nat.not_le.mpr ht, or_self, ha0, ha1, qx_cl (j := j) (show j ≤ 1000000 by omega), qx_neg (n := j) (show j ≤ 100000000 by omega), Nat.not_le.mpr hj, or_self, k36b, k35b]
  · have hroom : ¬ C 10 j 2 ≤ C 10 j 1 := fun q => by
      rw [z4, z5] at q
      have := (qx_le (a := z) (b := n) (by omega) (by omega)).mp q
      omega
    have hth : qh_there (qwt C t 2 (nI j) (nI j)) t := Or.inl ⟨qwt_2, by rw [qwt_10]; exact (qwt_room hj).mpr hroom⟩
    have hne : ¬ nI n = nI z := fun q => hnz ((qx_eq (by omega) (by omega)).mp q)
    have k36b : N 36 0 j = nI n := by rw [k36, z4]
    have k35b : N 35 0 j = nI z := by rw [k35, z5]
    have e25b : nI (e + 1) - 1 = nI e := nI_pred e
    have e36 : (fj_u1 N 25 0 t (nI e)) 36 0 j = nI n := by rw [qx_un (by omega)]; exact k36b
    have cw3 : (fj_u1 (fj_u1 (fj_u1 (fj_u1 C 7 t 2 2) 7 t 10 (nI j)) 7 t 11 (nI j)) 7 t 2 1) 7 t 3 = C 7 t 3 := by rw [qx_un (by omega), qx_un (by omega), qx_un (by omega), qx_un (by omega)]
    have cw4 : (fj_u1 (fj_u1 (fj_u1 (fj_u1 C 7 t 2 2) 7 t 10 (nI j)) 7 t 11 (nI j)) 7 t 2 1) 7 t 4 = nI (e + 1) := by rw [qx_un (by omega), qx_un (by omega), qx_un (by omega), qx_un (by omega)]; exact h4
    have w4 : (fj_u1 (fj_u1 (fj_u1 (fj_u1 (fj_u1 C 7 t 2 2) 7 t 10 (nI j)) 7 t 11 (nI j)) 7 t 2 1) 7 t 3 (C 7 t 3 + 1)) 7 t 4 = nI (e + 1) := by rw [qx_un (by omega)]; exact cw4
    have w8 : ∀ i9, (fj_u1 (fj_u1 (fj_u1 (fj_u1 (fj_u1 C 7 t 2 2) 7 t 10 (nI j)) 7 t 11 (nI j)) 7 t 2 1) 7 t 3 (C 7 t 3 + 1)) 8 t i9 = C 8 t i9 := fun i9 => by rw [qx_un (by omega), qx_un (by omega), qx_un (by omega), qx_un (by omega), qx_un (by omega)]
    have w10 : (fj_u1 (fj_u1 (fj_u1 (fj_u1 (fj_u1 (fj_u1 C 7 t 2 2) 7 t 10 (nI j)) 7 t 11 (nI j)) 7 t 2 1) 7 t 3 (C 7 t 3 + 1)) 7 t 4 (nI e)) 10 j 1 = nI n := by rw [qx_un (by omega), qx_un (by omega), qx_un (by omega), qx_un (by omega), qx_un (by omega), qx_un (by omega)]; exact z4
    have v10 : (fj_u1 (fj_u1 (fj_u1 (fj_u1 (fj_u1 C 7 t 2 2) 7 t 10 (nI j)) 7 t 11 (nI j)) 7 t 2 1) 7 t 4 (nI e)) 10 j 1 = nI n := by rw [qx_un (by omega), qx_un (by omega), qx_un (by omega), qx_un (by omega), qx_un (by omega)]; exact z4
    have v102 : (fj_u1 (fj_u1 (fj_u1 (fj_u1 (fj_u1 C 7 t 2 2) 7 t 10 (nI j)) 7 t 11 (nI j)) 7 t 2 1) 7 t 4 (nI e)) 10 j 2 = nI z := by rw [qx_un (by omega), qx_un (by omega), qx_un (by omega), qx_un (by omega), qx_un (by omega)]; exact z5
    have e24 : (fj_u1 (fj_u1 (fj_u1 N 25 0 t (nI e)) 37 0 (8 * j + n) (C 8 t e)) 36 0 j (nI (n + 1))) 24 0 t = C 7 t 3 := by rw [qx_un (by omega), qx_un (by omega), qx_un (by omega)]; exact h24
    refine Or.inr (Or.inr ⟨fj_u1 (fj_u1 (fj_u1 (fj_u1 C 7 t 2 2) 7 t 10 (nI j)) 7 t 11 (nI j)) 7 t 2 1, _, _, _, c0, fun N0 => by
      have k0 := qk_there1 (M := (qwt C t 2 (nI j) (nI j), N0)) (i := t) hth
      unfold qwt at k0
      simp (decide := true) only [dm_53, ↓reduceIte, Option.bind_some, dm_10, dm_53_100, k0, qz1], fun N0 => ?_, fun C0 => ?_, fun C0 => qn_spread0 (by (repeat rw [qx_un (by omega)]); exact h27) C0, qR_mono (qR_place (v := C 7 t 3 + 1) (qR_comes (C 8 t e) (qR_pop (d0 := e + 1) (e0 := e) cw4 hd (by omega) (qR_wt (s := 2) (v1 := nI j) (v2 := nI j) hs hR ht) ht) hj v10 v102 (by omega) z3) ht) (Nat.le_succ b), by repeat rw [qx_un (by omega)]⟩)
    · rw [cw3]
      rw [qx_cm (fj_u1 (fj_u1 (fj_u1 (fj_u1 (fj_u1 (fj_u1 C 7 t 2 2) 7 t 10 (nI j)) 7 t 11 (nI j)) 7 t 2 1) 7 t 4 (nI e)) 10 j 1 (nI (n + 1))) 11 j n (C 8 t e) 7 t 3 (C 7 t 3 + 1) (by omega), qx_cm (fj_u1 (fj_u1 (fj_u1 (fj_u1 (fj_u1 C 7 t 2 2) 7 t 10 (nI j)) 7 t 11 (nI j)) 7 t 2 1) 7 t 4 (nI e)) 10 j 1 (nI (n + 1)) 7 t 3 (C 7 t 3 + 1) (by omega), qx_cm ((fj_u1 (fj_u1 (fj_u1 (fj_u1 C 7 t 2 2) 7 t 10 (nI j)) 7 t 11 (nI j)) 7 t 2 1)) 7 t 4 (nI e) 7 t 3 (C 7 t 3 + 1) (by omega)]
      have p1 := qk_pop (M := (fj_u1 (fj_u1 (fj_u1 (fj_u1 (fj_u1 C 7 t 2 2) 7 t 10 (nI j)) 7 t 11 (nI j)) 7 t 2 1) 7 t 3 (C 7 t 3 + 1), N0)) (i := t) (d := e) w4 (by omega)
      have p2 := qk_append (M := (fj_u1 (fj_u1 (fj_u1 (fj_u1 (fj_u1 (fj_u1 C 7 t 2 2) 7 t 10 (nI j)) 7 t 11 (nI j)) 7 t 2 1) 7 t 3 (C 7 t 3 + 1)) 7 t 4 (nI e), N0)) (c := j) (n := n) (x := C 8 t e) w10 (by omega)
      simp (decide := true) only [dm_64, dm_3, dm_3_12, ↓reduceIte, Option.bind_some, dm_70, qg38_i hj, qz1, qx_cl (j := j) (show j ≤ 1000000 by omega), qx_neg (n := j) (show j ≤ 100000000 by omega), Nat.not_le.mpr hj, or_self, p1, w8, p2]
    · have q1 := qn_comes (C0 := C0) (N := fj_u1 N 25 0 t (nI e)) (c := j) (n := n) (x := C 8 t e) hj e36 (by omega)
      rw [n102]
      simp (decide := true) only [dm_102_117, dm_102_145, dm_102_164, dm_102_181, dm_102_193, dm_102_211, dm_102_215, dm_102_216, dm_102_245, dm_102_267, dm_102_271, dm_102_272, dm_102_298, dm_102_306, dm_102_341, dm_102_358, dm_102_388, dm_102_411, dm_78, dm_87, ↓reduceIte, Option.bind_some, qz1, dm_107, dm_107_141, dm_107_156, dm_107_175, dm_107_192, dm_107_226, dm_107_237, dm_107_242, dm_107_287, dm_107_322, dm_107_218, dm_107_85, dm_107_99, dm_107_112, dm_108, dm_106, qx_cl (j := t) (show t ≤ 1000000 by omega), qx_neg (n := t) (show t ≤ 100000000 by omega), Nat.not_le.mpr ht, or_self, ha0, ha1, qx_cl (j := j) (show j ≤ 1000000 by omega), qx_neg (n := j) (show j ≤ 100000000 by omega), Nat.not_le.mpr hj, or_self, k36b, k35b, if_neg hne, h25, e25b, q1, e24]
theorem qo_33 (hX : qX b C N t d r) : qY b C N t 33 a (qg t pl 33 a) := by
  by_cases hk : d < 1
  · exact Or.inl ⟨2, by decide, by decide, qk_few (o := 33) (k := 1) (fun _ => rfl) (fun _ => rfl) (by omega) hX hk, qn_few (o := 33) (k := 1) (fun _ => rfl) (by omega) hX hk⟩
  obtain ⟨e, rfl⟩ : ∃ e, d = e + 1 := ⟨d - 1, by omega⟩
  have hX0 := hX
  obtain ⟨⟨hb, hR, h27, h8, ht, hs⟩, ⟨h4, hd, h5, hr⟩, h24, h25, h27r, hst, hrt⟩ := hX
  have c4 : (fj_u1 C 7 t 3 (C 7 t 3 + 1)) 7 t 4 = nI (e + 1) := by rw [qx_un (by omega)]; exact h4
  have e25 : (fj_u1 N 24 0 t (C 7 t 3 + 1)) 25 0 t = nI (e + 1) := by rw [qx_un (by omega)]; exact h25
  have c8 : ∀ j, (fj_u1 C 7 t 3 (C 7 t 3 + 1)) 8 t j = C 8 t j := fun j => qx_un (by omega)
  have h55 := qk_55 (o := 33) (k := 1) (fun _ => rfl) (by decide) (by decide) hX0 (by omega)
  have c45 : ∀ N0 : fj_N, dm_54 t 33 a (C, N0) = dm_54_45 t 33 a (C 8 t e) (C, N0) := fun N0 => by
    have h := qk_54 (o := 33) (a := a) (fun _ => rfl) h55 (by decide) hX0 N0
    rw [qtop_s] at h
    exact h
  have n102 := qn_go1 (o := 33) (a := a) (pl := pl) (fun _ => rfl) (by decide) hX0
  rcases qx_ix a (n := 6) (by decide) with h | h | ⟨j, hj, rfl⟩
  · exact Or.inl ⟨6, by decide, by decide, fun N0 => by rw [c45]; exact qk_45_6 (fun _ => rfl) (fun N0 => by rw [show dm_57 33 a (C, N0) = (dm_38 a (C, N0)).bind (fun q2 => if q2.1 = 0 then some (1, q2.2) else some (0, q2.2)) from rfl, qg38_o (Or.inl h)]; rfl) N0, fun C0 => by rw [n102]; simp (decide := true) only [dm_102_117, dm_102_145, dm_102_164, dm_102_181, dm_102_193, dm_102_211, dm_102_215, dm_102_216, dm_102_245, dm_102_267, dm_102_271, dm_102_272, dm_102_298, dm_102_306, dm_102_341, dm_102_358, dm_102_388, dm_102_411, dm_78, dm_87, ↓reduceIte, Option.bind_some, qz1, dm_109, dm_109_24, dm_109_29, dm_109_47, dm_109_66, dm_109_87, qx_cl (j := t) (show t ≤ 1000000 by omega), qx_neg (n := t) (show t ≤ 100000000 by omega), Nat.not_le.mpr ht, or_self, h]⟩
  · have h1 : (5 : Int32) < a := (qx_pred (n := 6) (by omega) (by omega)).mpr h.2
    exact Or.inl ⟨6, by decide, by decide, fun N0 => by rw [c45]; exact qk_45_6 (fun _ => rfl) (fun N0 => by rw [show dm_57 33 a (C, N0) = (dm_38 a (C, N0)).bind (fun q2 => if q2.1 = 0 then some (1, q2.2) else some (0, q2.2)) from rfl, qg38_o (Or.inr h)]; rfl) N0, fun C0 => by rw [n102]; simp (decide := true) only [dm_102_117, dm_102_145, dm_102_164, dm_102_181, dm_102_193, dm_102_211, dm_102_215, dm_102_216, dm_102_245, dm_102_267, dm_102_271, dm_102_272, dm_102_298, dm_102_306, dm_102_341, dm_102_358, dm_102_388, dm_102_411, dm_78, dm_87, ↓reduceIte, Option.bind_some, qz1, dm_109, dm_109_24, dm_109_29, dm_109_47, dm_109_66, dm_109_87, qx_cl (j := t) (show t ≤ 1000000 by omega), qx_neg (n := t) (show t ≤ 100000000 by omega), Nat.not_le.mpr ht, or_self, h.1, h1]⟩
  have ha0 : ¬ nI j < 0 := qx_neg (by omega)
  have ha1 : ¬ (5 : Int32) < nI j := fun q => by
    have := (qx_lt (a := 5) (b := j) (by omega) (by omega)).mp q
    omega
  obtain ⟨k36, k35, n, z, z1, z2, z3, z4, z5, z6⟩ := hR.2.2.2 j hj
  have c0 : ∀ N0 : fj_N, dm_54 t 33 (nI j) (C, N0) = some (0, (C, N0)) := fun N0 => by
    rw [c45]
    exact qk_45 (fun _ => rfl) (fun N0 => by rw [show dm_57 33 (nI j) (C, N0) = (dm_38 (nI j) (C, N0)).bind (fun q2 => if q2.1 = 0 then some (1, q2.2) else some (0, q2.2)) from rfl, qg38_i hj]; rfl) (by decide) (qk_over0 (o := 33) (k := 1) (g := 1) (fun _ => rfl) (by decide) (fun _ => rfl) hX0 (by omega) (by omega) (by omega)) (Or.inl ⟨rfl, rfl⟩) N0
  have k36b : N 36 0 j = nI n := by rw [k36, z4]
  have k35b : N 35 0 j = nI z := by rw [k35, z5]
  by_cases hnz : n = z
  · have hfull : C 10 j 2 ≤ C 10 j 1 := by rw [z4, z5, hnz]; exact Int32.le_refl _
    have hro : ¬ qh_room (fj_u1 (fj_u1 C 7 t 3 (C 7 t 3 + 1)) 7 t 4 (nI e)) (nI j) := by rw [qh_room_j hj, qx_un (by omega), qx_un (by omega), qx_un (by omega), qx_un (by omega)]; exact fun q => q hfull
    have hnzi : nI n = nI z := by rw [hnz]
    have e24 : (fj_u1 (fj_u1 (fj_u1 N 25 0 t (nI e)) 26 0 (24 * t + e) 0) 25 0 t (nI (e + 1))) 24 0 t = C 7 t 3 := by rw [qx_un (by omega), qx_un (by omega), qx_un (by omega)]; exact h24
    refine Or.inr (Or.inr ⟨C, _, _, _, c0, fun N0 => rfl, fun N0 => ?_, fun C0 => ?_, fun C0 => qn_spread0 (by (repeat rw [qx_un (by omega)]); exact h27) C0, qR_mono (qR_place (v := C 7 t 3 + 1) (qR_push (v := 0) (d0 := e) (qx_us _ _ _ _ _) (by omega) (qR_pop (d0 := e + 1) (e0 := e) h4 hd (by omega) hR ht) ht) ht) (Nat.le_succ b), by repeat rw [qx_un (by omega)]⟩)
    · rw [qx_cm (fj_u1 (fj_u1 C 7 t 4 (nI e)) 7 t 4 (nI (e + 1))) 8 t e (0) 7 t 3 (C 7 t 3 + 1) (by omega), qx_cm (fj_u1 C 7 t 4 (nI e)) 7 t 4 (nI (e + 1)) 7 t 3 (C 7 t 3 + 1) (by omega), qx_cm C 7 t 4 (nI e) 7 t 3 (C 7 t 3 + 1) (by omega)]
      have p1 := qk_pop (M := (fj_u1 C 7 t 3 (C 7 t 3 + 1), N0)) (i := t) (d := e) c4 (by omega)
      have p2 := qk_push (M := (fj_u1 (fj_u1 C 7 t 3 (C 7 t 3 + 1)) 7 t 4 (nI e), N0)) (i := t) (d := e) (x := 0) (qx_us _ _ _ _ _) (by omega)
      have p3 := qk_room0 (M := (fj_u1 (fj_u1 C 7 t 3 (C 7 t 3 + 1)) 7 t 4 (nI e), N0)) hro
      simp (decide := true) only [dm_64, dm_3, dm_3_12, ↓reduceIte, Option.bind_some, dm_70, qg38_i hj, qz1, dm_71, dm_71_27, dm_71_38, p1, c8, p3, p2]
    · have q1 : dm_101 (nI t) 1 0 (C0, N) = _ := qn_gives (C0 := C0) (N1 := N) (e := e) (n := 1) (v := 0) ht (by omega) h25
      rw [n102]
      simp (decide := true) only [dm_102_117, dm_102_145, dm_102_164, dm_102_181, dm_102_193, dm_102_211, dm_102_215, dm_102_216, dm_102_245, dm_102_267, dm_102_271, dm_102_272, dm_102_298, dm_102_306, dm_102_341, dm_102_358, dm_102_388, dm_102_411, dm_78, dm_87, ↓reduceIte, Option.bind_some, qz1, dm_107, dm_107_141, dm_107_156, dm_107_175, dm_107_192, dm_107_226, dm_107_237, dm_107_242, dm_107_287, dm_107_322, dm_107_218, dm_107_85, dm_107_99, dm_107_112, dm_108, dm_106, qx_cl (j := t) (show t ≤ 1000000 by omega), qx_neg (n := t) (show t ≤ 100000000 by omega), Nat.not_le.mpr ht, or_self, ha0, ha1, qx_cl (j := j) (show j ≤ 1000000 by omega), qx_neg (n := j) (show j ≤ 100000000 by omega), Nat.not_le.mpr hj, or_self, k36b, k35b, hnzi, q1, e24]
  · have hne : ¬ nI n = nI z := fun q => hnz ((qx_eq (by omega) (by omega)).mp q)
    have hro : qh_room (fj_u1 (fj_u1 C 7 t 3 (C 7 t 3 + 1)) 7 t 4 (nI e)) (nI j) := by
      rw [qh_room_j hj, qx_un (by omega), qx_un (by omega), qx_un (by omega), qx_un (by omega), z4, z5]
      intro q
      have := (qx_le (a := z) (b := n) (by omega) (by omega)).mp q
      omega
    have w10 : (fj_u1 (fj_u1 C 7 t 3 (C 7 t 3 + 1)) 7 t 4 (nI e)) 10 j 1 = nI n := by rw [qx_un (by omega), qx_un (by omega)]; exact z4
    have w4 : (fj_u1 (fj_u1 (fj_u1 (fj_u1 C 7 t 3 (C 7 t 3 + 1)) 7 t 4 (nI e)) 10 j 1 (nI (n + 1))) 11 j n (C 8 t e)) 7 t 4 = nI e := by rw [qx_un (by omega), qx_un (by omega), qx_us]
    have v4 : (fj_u1 (fj_u1 C 10 j 1 (nI (n + 1))) 11 j n (C 8 t e)) 7 t 4 = nI (e + 1) := by rw [qx_un (by omega), qx_un (by omega)]; exact h4
    have e25c : (fj_u1 (fj_u1 N 37 0 (8 * j + n) (C 8 t e)) 36 0 j (nI (n + 1))) 25 0 t = nI (e + 1) := by rw [qx_un (by omega), qx_un (by omega)]; exact h25
    have e24 : (fj_u1 (fj_u1 (fj_u1 (fj_u1 (fj_u1 N 37 0 (8 * j + n) (C 8 t e)) 36 0 j (nI (n + 1))) 25 0 t (nI e)) 26 0 (24 * t + e) 1) 25 0 t (nI (e + 1))) 24 0 t = C 7 t 3 := by rw [qx_un (by omega), qx_un (by omega), qx_un (by omega), qx_un (by omega), qx_un (by omega)]; exact h24
    refine Or.inr (Or.inr ⟨C, _, _, _, c0, fun N0 => rfl, fun N0 => ?_, fun C0 => ?_, fun C0 => qn_spread0 (by (repeat rw [qx_un (by omega)]); exact h27) C0, qR_mono (qR_place (v := C 7 t 3 + 1) (qR_push (v := 1) (d0 := e) (qx_us _ _ _ _ _) (by omega) (qR_pop (d0 := e + 1) (e0 := e) v4 hd (by omega) (qR_comes (C 8 t e) hR hj z4 z5 (by omega) z3) ht) ht) ht) (Nat.le_succ b), by repeat rw [qx_un (by omega)]⟩)
    · rw [qx_cm (fj_u1 (fj_u1 (fj_u1 (fj_u1 C 10 j 1 (nI (n + 1))) 11 j n (C 8 t e)) 7 t 4 (nI e)) 7 t 4 (nI (e + 1))) 8 t e (1) 7 t 3 (C 7 t 3 + 1) (by omega), qx_cm (fj_u1 (fj_u1 (fj_u1 C 10 j 1 (nI (n + 1))) 11 j n (C 8 t e)) 7 t 4 (nI e)) 7 t 4 (nI (e + 1)) 7 t 3 (C 7 t 3 + 1) (by omega), qx_cm (fj_u1 (fj_u1 C 10 j 1 (nI (n + 1))) 11 j n (C 8 t e)) 7 t 4 (nI e) 7 t 3 (C 7 t 3 + 1) (by omega), qx_cm (fj_u1 C 10 j 1 (nI (n + 1))) 11 j n (C 8 t e) 7 t 3 (C 7 t 3 + 1) (by omega), qx_cm C 10 j 1 (nI (n + 1)) 7 t 3 (C 7 t 3 + 1) (by omega), qx_cm (fj_u1 (fj_u1 C 7 t 3 (C 7 t 3 + 1)) 10 j 1 (nI (n + 1))) 11 j n (C 8 t e) 7 t 4 (nI e) (by omega), qx_cm (fj_u1 C 7 t 3 (C 7 t 3 + 1)) 10 j 1 (nI (n + 1)) 7 t 4 (nI e) (by omega)]
      have p1 := qk_pop (M := (fj_u1 C 7 t 3 (C 7 t 3 + 1), N0)) (i := t) (d := e) c4 (by omega)
      have p2 := qk_append (M := (fj_u1 (fj_u1 C 7 t 3 (C 7 t 3 + 1)) 7 t 4 (nI e), N0)) (c := j) (n := n) (x := C 8 t e) w10 (by omega)
      have p3 := qk_push (M := (fj_u1 (fj_u1 (fj_u1 (fj_u1 C 7 t 3 (C 7 t 3 + 1)) 7 t 4 (nI e)) 10 j 1 (nI (n + 1))) 11 j n (C 8 t e), N0)) (i := t) (d := e) (x := 1) w4 (by omega)
      have p4 := qk_room1 (M := (fj_u1 (fj_u1 C 7 t 3 (C 7 t 3 + 1)) 7 t 4 (nI e), N0)) hro
      simp (decide := true) only [dm_64, dm_3, dm_3_12, ↓reduceIte, Option.bind_some, dm_70, qg38_i hj, qz1, dm_71, dm_71_27, dm_71_38, p1, c8, p4, qx_cl (j := j) (show j ≤ 1000000 by omega), qx_neg (n := j) (show j ≤ 100000000 by omega), Nat.not_le.mpr hj, or_self, p2, p3]
    · have q1 := qn_comes (C0 := C0) (N := N) (c := j) (n := n) (x := C 8 t e) hj k36b (by omega)
      have q2 : dm_101 (nI t) 1 1 (C0, fj_u1 (fj_u1 N 37 0 (8 * j + n) (C 8 t e)) 36 0 j (nI (n + 1))) = _ := qn_gives (C0 := C0) (N1 := fj_u1 (fj_u1 N 37 0 (8 * j + n) (C 8 t e)) 36 0 j (nI (n + 1))) (e := e) (n := 1) (v := 1) ht (by omega) e25c
      rw [n102]
      simp (decide := true) only [dm_102_117, dm_102_145, dm_102_164, dm_102_181, dm_102_193, dm_102_211, dm_102_215, dm_102_216, dm_102_245, dm_102_267, dm_102_271, dm_102_272, dm_102_298, dm_102_306, dm_102_341, dm_102_358, dm_102_388, dm_102_411, dm_78, dm_87, ↓reduceIte, Option.bind_some, qz1, dm_107, dm_107_141, dm_107_156, dm_107_175, dm_107_192, dm_107_226, dm_107_237, dm_107_242, dm_107_287, dm_107_322, dm_107_218, dm_107_85, dm_107_99, dm_107_112, dm_108, dm_106, qx_cl (j := t) (show t ≤ 1000000 by omega), qx_neg (n := t) (show t ≤ 100000000 by omega), Nat.not_le.mpr ht, or_self, ha0, ha1, qx_cl (j := j) (show j ≤ 1000000 by omega), qx_neg (n := j) (show j ≤ 100000000 by omega), Nat.not_le.mpr hj, or_self, k36b, k35b, if_neg hne, q1, q2, e24]
theorem qo_32 (hX : qX b C N t d r) : qY b C N t 32 a (qg t pl 32 a) := by
  have hX0 := hX
  obtain ⟨⟨hb, hR, h27, h8, ht, hs⟩, ⟨h4, hd, h5, hr⟩, h24, h25, h27r, hst, hrt⟩ := hX
  have c4 : (fj_u1 C 7 t 3 (C 7 t 3 + 1)) 7 t 4 = nI d := by rw [qx_un (by omega)]; exact h4
  have e25 : (fj_u1 N 24 0 t (C 7 t 3 + 1)) 25 0 t = nI d := by rw [qx_un (by omega)]; exact h25
  have c8 : ∀ j, (fj_u1 C 7 t 3 (C 7 t 3 + 1)) 8 t j = C 8 t j := fun j => qx_un (by omega)
  have h55 := qk_55 (o := 32) (k := 0) (fun _ => rfl) (by decide) (by decide) hX0 (by omega)
  have c45 : ∀ N0 : fj_N, dm_54 t 32 a (C, N0) = dm_54_45 t 32 a (qtop C t d) (C, N0) := fun N0 => by
    have h := qk_54 (o := 32) (a := a) (fun _ => rfl) h55 (by decide) hX0 N0
    exact h
  have n102 := qn_go0 (o := 32) (a := a) (pl := pl) (fun _ => rfl) (by decide) hX0
  rcases qx_ix a (n := 6) (by decide) with h | h | ⟨j, hj, rfl⟩
  · exact Or.inl ⟨6, by decide, by decide, fun N0 => by rw [c45]; exact qk_45_6 (fun _ => rfl) (fun N0 => by rw [show dm_57 32 a (C, N0) = (dm_38 a (C, N0)).bind (fun q2 => if q2.1 = 0 then some (1, q2.2) else some (0, q2.2)) from rfl, qg38_o (Or.inl h)]; rfl) N0, fun C0 => by rw [n102]; simp (decide := true) only [dm_102_117, dm_102_145, dm_102_164, dm_102_181, dm_102_193, dm_102_211, dm_102_215, dm_102_216, dm_102_245, dm_102_267, dm_102_271, dm_102_272, dm_102_298, dm_102_306, dm_102_341, dm_102_358, dm_102_388, dm_102_411, dm_78, dm_87, ↓reduceIte, Option.bind_some, qz1, dm_109, dm_109_24, dm_109_29, dm_109_47, dm_109_66, dm_109_87, qx_cl (j := t) (show t ≤ 1000000 by omega), qx_neg (n := t) (show t ≤ 100000000 by omega), Nat.not_le.mpr ht, or_self, h]⟩
  · have h1 : (5 : Int32) < a := (qx_pred (n := 6) (by omega) (by omega)).mpr h.2
    exact Or.inl ⟨6, by decide, by decide, fun N0 => by rw [c45]; exact qk_45_6 (fun _ => rfl) (fun N0 => by rw [show dm_57 32 a (C, N0) = (dm_38 a (C, N0)).bind (fun q2 => if q2.1 = 0 then some (1, q2.2) else some (0, q2.2)) from rfl, qg38_o (Or.inr h)]; rfl) N0, fun C0 => by rw [n102]; simp (decide := true) only [dm_102_117, dm_102_145, dm_102_164, dm_102_181, dm_102_193, dm_102_211, dm_102_215, dm_102_216, dm_102_245, dm_102_267, dm_102_271, dm_102_272, dm_102_298, dm_102_306, dm_102_341, dm_102_358, dm_102_388, dm_102_411, dm_78, dm_87, ↓reduceIte, Option.bind_some, qz1, dm_109, dm_109_24, dm_109_29, dm_109_47, dm_109_66, dm_109_87, qx_cl (j := t) (show t ≤ 1000000 by omega), qx_neg (n := t) (show t ≤ 100000000 by omega), Nat.not_le.mpr ht, or_self, h.1, h1]⟩
  have ha0 : ¬ nI j < 0 := qx_neg (by omega)
  have ha1 : ¬ (5 : Int32) < nI j := fun q => by
    have := (qx_lt (a := 5) (b := j) (by omega) (by omega)).mp q
    omega
  obtain ⟨k36, k35, n, z, z1, z2, z3, z4, z5, z6⟩ := hR.2.2.2 j hj
  by_cases hn0 : n = 0
  · have hn0c : C 10 j 1 ≤ 0 := by rw [z4, hn0]; decide
    have hn0n : N 36 0 j = 0 := by rw [k36, z4, hn0]; rfl
    have hin : ¬ qh_ints C (nI j) := fun q => (qh_ints_j hj).mp q hn0c
    have c0 : ∀ N0 : fj_N, dm_54 t 32 (nI j) (C, N0) = some (0, (C, N0)) := fun N0 => by
      rw [c45]
      exact qk_45 (fun _ => rfl) (fun N0 => by rw [show dm_57 32 (nI j) (C, N0) = (dm_38 (nI j) (C, N0)).bind (fun q2 => if q2.1 = 0 then some (1, q2.2) else some (0, q2.2)) from rfl, qg38_i hj]; rfl) (by decide) (qk_over0 (o := 32) (k := 0) (g := 0) (fun _ => rfl) (by decide) (fun N0 => by simp (decide := true) only [dm_61, ↓reduceIte, qk_ints0 (M := (C, N0)) hin, Option.bind_some]; rfl) hX0 (by omega) (by omega) (by omega)) (Or.inl ⟨rfl, rfl⟩) N0
    have hth : ¬ qh_there (qwt C t 3 (nI j) (nI j)) t := by
      rintro (⟨h, h2⟩ | ⟨h, h2⟩ | ⟨h, h2⟩ | ⟨h, h2⟩)
      · rw [qwt_2] at h; exact absurd h (by decide)
      · rw [qwt_10] at h2; exact (qwt_ints hj).mp h2 hn0c
      · rw [qwt_2] at h; exact absurd h (by decide)
      · rw [qwt_2] at h; exact absurd h (by decide)
    refine Or.inr (Or.inl ⟨qwt C t 3 (nI j) (nI j), _, c0, fun N0 => ?_, fun C0 => ?_, qR_mono (qR_wrecv (c := j) hj hs hR ht) (Nat.le_succ b), by (repeat rw [qx_un (by omega)]); exact h27, by rw [qwt_o (by omega)]⟩)
    · have k0 := qk_there0 (M := (qwt C t 3 (nI j) (nI j), N0)) (i := t) hth
      unfold qwt at k0 ⊢
      simp (decide := true) only [dm_53, ↓reduceIte, Option.bind_some, dm_10, dm_53_100, k0]
    · rw [n102]
      simp (decide := true) only [dm_102_117, dm_102_145, dm_102_164, dm_102_181, dm_102_193, dm_102_211, dm_102_215, dm_102_216, dm_102_245, dm_102_267, dm_102_271, dm_102_272, dm_102_298, dm_102_306, dm_102_341, dm_102_358, dm_102_388, dm_102_411, dm_78, dm_87, ↓reduceIte, Option.bind_some, qz1, dm_107, dm_107_141, dm_107_156, dm_107_175, dm_107_192, dm_107_226, dm_107_237, dm_107_242, dm_107_287, dm_107_322, dm_107_218, dm_107_85, dm_107_99, dm_107_112, dm_108, dm_106, qx_cl (j := t) (show t ≤ 1000000 by omega), qx_neg (n := t) (show t ≤ 100000000 by omega), Nat.not_le.mpr ht, or_self, ha0, ha1, qx_cl (j := j) (show j ≤ 1000000 by omega), qx_neg (n := j) (show j ≤ 100000000 by omega), Nat.not_le.mpr hj, or_self, hn0n]
  obtain ⟨m, rfl⟩ : ∃ m, n = m + 1 := ⟨n - 1, by omega⟩
  have hnc : ¬ C 10 j 1 ≤ 0 := by rw [z4]; exact nI_nle (by omega) (by omega)
  have k36b : N 36 0 j = nI (m + 1) := by rw [k36, z4]
  have hl0 : ¬ nI (m + 1) ≤ 0 := nI_nle (by omega) (by omega)
  have he0 : ¬ nI (m + 1) = 0 := nI_ne0 (by omega) (by omega)
  have hin : qh_ints C (nI j) := (qh_ints_j hj).mpr hnc
  by_cases hg : d < 24
  · have c0 : ∀ N0 : fj_N, dm_54 t 32 (nI j) (C, N0) = some (0, (C, N0)) := fun N0 => by
      rw [c45]
      exact qk_45 (fun _ => rfl) (fun N0 => by rw [show dm_57 32 (nI j) (C, N0) = (dm_38 (nI j) (C, N0)).bind (fun q2 => if q2.1 = 0 then some (1, q2.2) else some (0, q2.2)) from rfl, qg38_i hj]; rfl) (by decide) (qk_over0 (o := 32) (k := 0) (g := 1) (fun _ => rfl) (by decide) (fun N0 => by simp (decide := true) only [dm_61, ↓reduceIte, qk_ints1 (M := (C, N0)) hin, Option.bind_some, qz1]; rfl) hX0 (by omega) (by omega) (by omega)) (Or.inl ⟨rfl, rfl⟩) N0
    have hle : nI d + 1 ≤ 24 := by rw [nI_1]; exact (qx_le (a := d + 1) (b := 24) (by omega) (by omega)).mpr (by omega)
    have hth : qh_there (qwt C t 3 (nI j) (nI j)) t := Or.inr (Or.inl ⟨qwt_2, by rw [qwt_10]; exact (qwt_ints hj).mpr hnc⟩)
    have cw3 : (fj_u1 (fj_u1 (fj_u1 (fj_u1 C 7 t 2 3) 7 t 10 (nI j)) 7 t 11 (nI j)) 7 t 2 1) 7 t 3 = C 7 t 3 := by rw [qx_un (by omega), qx_un (by omega), qx_un (by omega), qx_un (by omega)]
    have w10 : (fj_u1 (fj_u1 (fj_u1 (fj_u1 (fj_u1 C 7 t 2 3) 7 t 10 (nI j)) 7 t 11 (nI j)) 7 t 2 1) 7 t 3 (C 7 t 3 + 1)) 10 j 1 = nI (m + 1) := by rw [qx_un (by omega), qx_un (by omega), qx_un (by omega), qx_un (by omega), qx_un (by omega)]; exact z4
    have w4 : (fj_u1 (fj_u1 (fj_u1 (fj_u1 (fj_u1 C 7 t 2 3) 7 t 10 (nI j)) 7 t 11 (nI j)) 7 t 2 1) 7 t 3 (C 7 t 3 + 1)) 7 t 4 = nI d := by rw [qx_un (by omega), qx_un (by omega), qx_un (by omega), qx_un (by omega), qx_un (by omega)]; exact h4
    have w7 : (fj_u1 (fj_u1 (fj_u1 (fj_u1 (fj_u1 C 7 t 2 3) 7 t 10 (nI j)) 7 t 11 (nI j)) 7 t 2 1) 7 t 3 (C 7 t 3 + 1)) 0 0 7 = C 0 0 7 := by rw [qx_un (by omega), qx_un (by omega), qx_un (by omega), qx_un (by omega), qx_un (by omega)]
    obtain ⟨G, H, g1, g2, g3, g4, g5⟩ := qx_goes (qR_place (v := C 7 t 3 + 1) (qR_wt (s := 3) (v1 := nI j) (v2 := nI j) hs hR ht) ht) hj w10 (by omega)
    generalize (fj_u1 (fj_u1 (fj_u1 (fj_u1 (fj_u1 C 7 t 2 3) 7 t 10 (nI j)) 7 t 11 (nI j)) 7 t 2 1) 7 t 3 (C 7 t 3 + 1)) 11 j 0 = x at *
    have gd : G 7 t 4 = nI d := by rw [g4 _ _ _ (by omega) (by omega)]; exact w4
    have hd25 : H 25 0 t = nI d := by rw [g5 _ _ _ (by omega) (by omega)]; exact e25
    have h27h : H 20 0 27 = 0 := by rw [g5 _ _ _ (by omega) (by omega), qx_un (by omega)]; exact h27
    refine Or.inr (Or.inr ⟨fj_u1 (fj_u1 (fj_u1 (fj_u1 C 7 t 2 3) 7 t 10 (nI j)) 7 t 11 (nI j)) 7 t 2 1, _, _, _, c0, fun N0 => by
      have k0 := qk_there1 (M := (qwt C t 3 (nI j) (nI j), N0)) (i := t) hth
      unfold qwt at k0
      simp (decide := true) only [dm_53, ↓reduceIte, Option.bind_some, dm_10, dm_53_100, k0, qz1], fun N0 => ?_, fun C0 => ?_, fun C0 => qn_spread0 (by rw [qx_un (by omega), qx_un (by omega)]; exact h27h) C0, qR_mono (qR_push (v := x) (d0 := d) gd hg g3 ht) (Nat.le_succ b), by rw [qx_un (by omega), qx_un (by omega), g4 _ _ _ (by omega) (by omega)]; exact w7⟩)
    · rw [cw3]
      have p1 := qk_push (M := (G, N0)) (i := t) (d := d) (x := x) gd hg
      simp (decide := true) only [dm_64, dm_3, dm_3_12, ↓reduceIte, Option.bind_some, dm_70, qg38_i hj, qz1, qx_cl (j := j) (show j ≤ 1000000 by omega), qx_neg (n := j) (show j ≤ 100000000 by omega), Nat.not_le.mpr hj, or_self, g1, p1]
    · rw [n102]
      simp (decide := true) only [dm_102_117, dm_102_145, dm_102_164, dm_102_181, dm_102_193, dm_102_211, dm_102_215, dm_102_216, dm_102_245, dm_102_267, dm_102_271, dm_102_272, dm_102_298, dm_102_306, dm_102_341, dm_102_358, dm_102_388, dm_102_411, dm_78, dm_87, ↓reduceIte, Option.bind_some, qz1, dm_107, dm_107_141, dm_107_156, dm_107_175, dm_107_192, dm_107_226, dm_107_237, dm_107_242, dm_107_287, dm_107_322, dm_107_218, dm_107_85, dm_107_99, dm_107_112, dm_108, dm_106, qx_cl (j := t) (show t ≤ 1000000 by omega), qx_neg (n := t) (show t ≤ 100000000 by omega), Nat.not_le.mpr ht, or_self, ha0, ha1, qx_cl (j := j) (show j ≤ 1000000 by omega), qx_neg (n := j) (show j ≤ 100000000 by omega), Nat.not_le.mpr hj, or_self, k36b, if_neg hl0, if_neg he0, h25, if_pos hle, h24, g2, qn_gives0 (C0 := C0) (N1 := H) (e := d) (v := x) ht hg hd25]
  · have c3 : ∀ N0 : fj_N, dm_54 t 32 (nI j) (C, N0) = some (3, (C, N0)) := fun N0 => by
      rw [c45]
      exact qk_45 (fun _ => rfl) (fun N0 => by rw [show dm_57 32 (nI j) (C, N0) = (dm_38 (nI j) (C, N0)).bind (fun q2 => if q2.1 = 0 then some (1, q2.2) else some (0, q2.2)) from rfl, qg38_i hj]; rfl) (by decide) (qk_over1 (o := 32) (k := 0) (g := 1) (fun _ => rfl) (by decide) (fun N0 => by simp (decide := true) only [dm_61, ↓reduceIte, qk_ints1 (M := (C, N0)) hin, Option.bind_some, qz1]; rfl) hX0 (by omega) (by omega) (by omega)) (Or.inr ⟨rfl, rfl⟩) N0
    have hle : ¬ nI d + 1 ≤ 24 := fun q => by
      rw [nI_1] at q
      have := (qx_le (a := d + 1) (b := 24) (by omega) (by omega)).mp q
      omega
    refine Or.inl ⟨3, by decide, by decide, c3, fun C0 => ?_⟩
    rw [n102]
    simp (decide := true) only [dm_102_117, dm_102_145, dm_102_164, dm_102_181, dm_102_193, dm_102_211, dm_102_215, dm_102_216, dm_102_245, dm_102_267, dm_102_271, dm_102_272, dm_102_298, dm_102_306, dm_102_341, dm_102_358, dm_102_388, dm_102_411, dm_78, dm_87, ↓reduceIte, Option.bind_some, qz1, dm_107, dm_107_141, dm_107_156, dm_107_175, dm_107_192, dm_107_226, dm_107_237, dm_107_242, dm_107_287, dm_107_322, dm_107_218, dm_107_85, dm_107_99, dm_107_112, dm_108, dm_106, qx_cl (j := t) (show t ≤ 1000000 by omega), qx_neg (n := t) (show t ≤ 100000000 by omega), Nat.not_le.mpr ht, or_self, ha0, ha1, qx_cl (j := j) (show j ≤ 1000000 by omega), qx_neg (n := j) (show j ≤ 100000000 by omega), Nat.not_le.mpr hj, or_self, k36b, if_neg hl0, if_neg he0, h25, if_neg hle]
theorem qo_34 (hX : qX b C N t d r) : qY b C N t 34 a (qg t pl 34 a) := by
  have hX0 := hX
  obtain ⟨⟨hb, hR, h27, h8, ht, hs⟩, ⟨h4, hd, h5, hr⟩, h24, h25, h27r, hst, hrt⟩ := hX
  have c4 : (fj_u1 C 7 t 3 (C 7 t 3 + 1)) 7 t 4 = nI d := by rw [qx_un (by omega)]; exact h4
  have e25 : (fj_u1 N 24 0 t (C 7 t 3 + 1)) 25 0 t = nI d := by rw [qx_un (by omega)]; exact h25
  have c8 : ∀ j, (fj_u1 C 7 t 3 (C 7 t 3 + 1)) 8 t j = C 8 t j := fun j => qx_un (by omega)
  have h55 := qk_55 (o := 34) (k := 0) (fun _ => rfl) (by decide) (by decide) hX0 (by omega)
  have c45 : ∀ N0 : fj_N, dm_54 t 34 a (C, N0) = dm_54_45 t 34 a (qtop C t d) (C, N0) := fun N0 => by
    have h := qk_54 (o := 34) (a := a) (fun _ => rfl) h55 (by decide) hX0 N0
    exact h
  have n102 := qn_go0 (o := 34) (a := a) (pl := pl) (fun _ => rfl) (by decide) hX0
  rcases qx_ix a (n := 6) (by decide) with h | h | ⟨j, hj, rfl⟩
  · exact Or.inl ⟨6, by decide, by decide, fun N0 => by rw [c45]; exact qk_45_6 (fun _ => rfl) (fun N0 => by rw [show dm_57 34 a (C, N0) = (dm_38 a (C, N0)).bind (fun q2 => if q2.1 = 0 then some (1, q2.2) else some (0, q2.2)) from rfl, qg38_o (Or.inl h)]; rfl) N0, fun C0 => by rw [n102]; simp (decide := true) only [dm_102_117, dm_102_145, dm_102_164, dm_102_181, dm_102_193, dm_102_211, dm_102_215, dm_102_216, dm_102_245, dm_102_267, dm_102_271, dm_102_272, dm_102_298, dm_102_306, dm_102_341, dm_102_358, dm_102_388, dm_102_411, dm_78, dm_87, ↓reduceIte, Option.bind_some, qz1, dm_109, dm_109_24, dm_109_29, dm_109_47, dm_109_66, dm_109_87, qx_cl (j := t) (show t ≤ 1000000 by omega), qx_neg (n := t) (show t ≤ 100000000 by omega), Nat.not_le.mpr ht, or_self, h]⟩
  · have h1 : (5 : Int32) < a := (qx_pred (n := 6) (by omega) (by omega)).mpr h.2
    exact Or.inl ⟨6, by decide, by decide, fun N0 => by rw [c45]; exact qk_45_6 (fun _ => rfl) (fun N0 => by rw [show dm_57 34 a (C, N0) = (dm_38 a (C, N0)).bind (fun q2 => if q2.1 = 0 then some (1, q2.2) else some (0, q2.2)) from rfl, qg38_o (Or.inr h)]; rfl) N0, fun C0 => by rw [n102]; simp (decide := true) only [dm_102_117, dm_102_145, dm_102_164, dm_102_181, dm_102_193, dm_102_211, dm_102_215, dm_102_216, dm_102_245, dm_102_267, dm_102_271, dm_102_272, dm_102_298, dm_102_306, dm_102_341, dm_102_358, dm_102_388, dm_102_411, dm_78, dm_87, ↓reduceIte, Option.bind_some, qz1, dm_109, dm_109_24, dm_109_29, dm_109_47, dm_109_66, dm_109_87, qx_cl (j := t) (show t ≤ 1000000 by omega), qx_neg (n := t) (show t ≤ 100000000 by omega), Nat.not_le.mpr ht, or_self, h.1, h1]⟩
  have ha0 : ¬ nI j < 0 := qx_neg (by omega)
  have ha1 : ¬ (5 : Int32) < nI j := fun q => by
    have := (qx_lt (a := 5) (b := j) (by omega) (by omega)).mp q
    omega
  obtain ⟨k36, k35, n, z, z1, z2, z3, z4, z5, z6⟩ := hR.2.2.2 j hj
  by_cases hn0 : n = 0
  · have hn0c : C 10 j 1 ≤ 0 := by rw [z4, hn0]; decide
    have hn0n : N 36 0 j = 0 := by rw [k36, z4, hn0]; rfl
    have hin : ¬ qh_ints C (nI j) := fun q => (qh_ints_j hj).mp q hn0c
    have hin2 : ¬ qh_ints (fj_u1 C 7 t 3 (C 7 t 3 + 1)) (nI j) := fun q => by
      have := (qh_ints_j hj).mp q
      rw [qx_un (by omega)] at this
      exact this hn0c
    by_cases hg : d < 24
    · have c0 : ∀ N0 : fj_N, dm_54 t 34 (nI j) (C, N0) = some (0, (C, N0)) := fun N0 => by
        rw [c45]
        exact qk_45 (fun _ => rfl) (fun N0 => by rw [show dm_57 34 (nI j) (C, N0) = (dm_38 (nI j) (C, N0)).bind (fun q2 => if q2.1 = 0 then some (1, q2.2) else some (0, q2.2)) from rfl, qg38_i hj]; rfl) (by decide) (qk_over0 (o := 34) (k := 0) (g := 1) (fun _ => rfl) (by decide) (fun N0 => by simp (decide := true) only [dm_61, ↓reduceIte, qk_ints0 (M := (C, N0)) hin, Option.bind_some]; rfl) hX0 (by omega) (by omega) (by omega)) (Or.inl ⟨rfl, rfl⟩) N0
      have hle : nI d + 1 ≤ 24 := by rw [nI_1]; exact (qx_le (a := d + 1) (b := 24) (by omega) (by omega)).mpr (by omega)
      refine Or.inr (Or.inr ⟨C, _, _, _, c0, fun N0 => rfl, fun N0 => ?_, fun C0 => ?_, fun C0 => qn_spread0 (by (repeat rw [qx_un (by omega)]); exact h27) C0, qR_mono (qR_push (v := 0) (d0 := d) c4 hg (qR_place (v := C 7 t 3 + 1) hR ht) ht) (Nat.le_succ b), by repeat rw [qx_un (by omega)]⟩)
      · have p1 := qk_push (M := (fj_u1 C 7 t 3 (C 7 t 3 + 1), N0)) (i := t) (d := d) (x := 0) c4 hg
        have p2 := qk_ints0 (M := (fj_u1 C 7 t 3 (C 7 t 3 + 1), N0)) hin2
        simp (decide := true) only [dm_64, dm_3, dm_3_12, ↓reduceIte, Option.bind_some, dm_70, qg38_i hj, qz1, dm_72, dm_72_23, dm_72_33, p2, p1]
      · rw [n102]
        simp (decide := true) only [dm_102_117, dm_102_145, dm_102_164, dm_102_181, dm_102_193, dm_102_211, dm_102_215, dm_102_216, dm_102_245, dm_102_267, dm_102_271, dm_102_272, dm_102_298, dm_102_306, dm_102_341, dm_102_358, dm_102_388, dm_102_411, dm_78, dm_87, ↓reduceIte, Option.bind_some, qz1, dm_107, dm_107_141, dm_107_156, dm_107_175, dm_107_192, dm_107_226, dm_107_237, dm_107_242, dm_107_287, dm_107_322, dm_107_218, dm_107_85, dm_107_99, dm_107_112, dm_108, dm_106, qx_cl (j := t) (show t ≤ 1000000 by omega), qx_neg (n := t) (show t ≤ 100000000 by omega), Nat.not_le.mpr ht, or_self, ha0, ha1, qx_cl (j := j) (show j ≤ 1000000 by omega), qx_neg (n := j) (show j ≤ 100000000 by omega), Nat.not_le.mpr hj, or_self, hn0n, h25, if_pos hle, h24, qn_gives0 (C0 := C0) (N1 := fj_u1 N 24 0 t (C 7 t 3 + 1)) (e := d) (v := 0) ht hg e25]
    · have c3 : ∀ N0 : fj_N, dm_54 t 34 (nI j) (C, N0) = some (3, (C, N0)) := fun N0 => by
        rw [c45]
        exact qk_45 (fun _ => rfl) (fun N0 => by rw [show dm_57 34 (nI j) (C, N0) = (dm_38 (nI j) (C, N0)).bind (fun q2 => if q2.1 = 0 then some (1, q2.2) else some (0, q2.2)) from rfl, qg38_i hj]; rfl) (by decide) (qk_over1 (o := 34) (k := 0) (g := 1) (fun _ => rfl) (by decide) (fun N0 => by simp (decide := true) only [dm_61, ↓reduceIte, qk_ints0 (M := (C, N0)) hin, Option.bind_some]; rfl) hX0 (by omega) (by omega) (by omega)) (Or.inr ⟨rfl, rfl⟩) N0
      have hle : ¬ nI d + 1 ≤ 24 := fun q => by
        rw [nI_1] at q
        have := (qx_le (a := d + 1) (b := 24) (by omega) (by omega)).mp q
        omega
      refine Or.inl ⟨3, by decide, by decide, c3, fun C0 => ?_⟩
      rw [n102]
      simp (decide := true) only [dm_102_117, dm_102_145, dm_102_164, dm_102_181, dm_102_193, dm_102_211, dm_102_215, dm_102_216, dm_102_245, dm_102_267, dm_102_271, dm_102_272, dm_102_298, dm_102_306, dm_102_341, dm_102_358, dm_102_388, dm_102_411, dm_78, dm_87, ↓reduceIte, Option.bind_some, qz1, dm_107, dm_107_141, dm_107_156, dm_107_175, dm_107_192, dm_107_226, dm_107_237, dm_107_242, dm_107_287, dm_107_322, dm_107_218, dm_107_85, dm_107_99, dm_107_112, dm_108, dm_106, qx_cl (j := t) (show t ≤ 1000000 by omega), qx_neg (n := t) (show t ≤ 100000000 by omega), Nat.not_le.mpr ht, or_self, ha0, ha1, qx_cl (j := j) (show j ≤ 1000000 by omega), qx_neg (n := j) (show j ≤ 100000000 by omega), Nat.not_le.mpr hj, or_self, hn0n, h25, if_neg hle]
  obtain ⟨m, rfl⟩ : ∃ m, n = m + 1 := ⟨n - 1, by omega⟩
  have hnc : ¬ C 10 j 1 ≤ 0 := by rw [z4]; exact nI_nle (by omega) (by omega)
  have k36b : N 36 0 j = nI (m + 1) := by rw [k36, z4]
  have hl0 : ¬ nI (m + 1) ≤ 0 := nI_nle (by omega) (by omega)
  have he0 : ¬ nI (m + 1) = 0 := nI_ne0 (by omega) (by omega)
  have hin : qh_ints C (nI j) := (qh_ints_j hj).mpr hnc
  by_cases hg : d + 1 < 24
  · have c0 : ∀ N0 : fj_N, dm_54 t 34 (nI j) (C, N0) = some (0, (C, N0)) := fun N0 => by
      rw [c45]
      exact qk_45 (fun _ => rfl) (fun N0 => by rw [show dm_57 34 (nI j) (C, N0) = (dm_38 (nI j) (C, N0)).bind (fun q2 => if q2.1 = 0 then some (1, q2.2) else some (0, q2.2)) from rfl, qg38_i hj]; rfl) (by decide) (qk_over0 (o := 34) (k := 0) (g := 2) (fun _ => rfl) (by decide) (fun N0 => by simp (decide := true) only [dm_61, ↓reduceIte, qk_ints1 (M := (C, N0)) hin, Option.bind_some, qz1]; rfl) hX0 (by omega) (by omega) (by omega)) (Or.inl ⟨rfl, rfl⟩) N0
    have hle : nI d + 2 ≤ 24 := by rw [show (2 : Int32) = nI 2 from rfl, qx_add]; exact (qx_le (a := d + 2) (b := 24) (by omega) (by omega)).mpr (by omega)
    have hin2 : qh_ints (fj_u1 C 7 t 3 (C 7 t 3 + 1)) (nI j) := by rw [qh_ints_j hj, qx_un (by omega)]; exact hnc
    have w10 : (fj_u1 C 7 t 3 (C 7 t 3 + 1)) 10 j 1 = nI (m + 1) := by rw [qx_un (by omega)]; exact z4
    have w7 : (fj_u1 C 7 t 3 (C 7 t 3 + 1)) 0 0 7 = C 0 0 7 := by rw [qx_un (by omega)]
    obtain ⟨G, H, g1, g2, g3, g4, g5⟩ := qx_goes (qR_place (v := C 7 t 3 + 1) hR ht) hj w10 (by omega)
    generalize (fj_u1 C 7 t 3 (C 7 t 3 + 1)) 11 j 0 = x at *
    have gd : G 7 t 4 = nI d := by rw [g4 _ _ _ (by omega) (by omega)]; exact c4
    have hd25 : H 25 0 t = nI d := by rw [g5 _ _ _ (by omega) (by omega)]; exact e25
    have h27h : H 20 0 27 = 0 := by rw [g5 _ _ _ (by omega) (by omega), qx_un (by omega)]; exact h27
    have gd2 : (fj_u1 (fj_u1 G 7 t 4 (nI (d + 1))) 8 t d x) 7 t 4 = nI (d + 1) := by rw [qx_un (by omega), qx_us]
    refine Or.inr (Or.inr ⟨C, _, _, _, c0, fun N0 => rfl, fun N0 => ?_, fun C0 => ?_, fun C0 => qn_spread0 (by rw [qx_un (by omega), qx_un (by omega), qx_un (by omega), qx_un (by omega)]; exact h27h) C0, qR_mono (qR_push (v := 1) (d0 := d + 1) gd2 hg (qR_push (v := x) (d0 := d) gd (by omega) g3 ht) ht) (Nat.le_succ b), by rw [qx_un (by omega), qx_un (by omega), qx_un (by omega), qx_un (by omega), g4 _ _ _ (by omega) (by omega)]; exact w7⟩)
    · have p0 := qk_ints1 (M := (fj_u1 C 7 t 3 (C 7 t 3 + 1), N0)) hin2
      have p1 := qk_push (M := (G, N0)) (i := t) (d := d) (x := x) gd (by omega)
      have p2 := qk_push (M := (fj_u1 (fj_u1 G 7 t 4 (nI (d + 1))) 8 t d x, N0)) (i := t) (d := d + 1) (x := 1) gd2 hg
      simp (decide := true) only [dm_64, dm_3, dm_3_12, ↓reduceIte, Option.bind_some, dm_70, qg38_i hj, qz1, dm_72, dm_72_23, dm_72_33, p0, qx_cl (j := j) (show j ≤ 1000000 by omega), qx_neg (n := j) (show j ≤ 100000000 by omega), Nat.not_le.mpr hj, or_self, g1, p1, p2]
    · have q1 := qn_gives0 (C0 := C0) (N1 := H) (e := d) (v := x) ht (by omega) hd25
      have q2 := qn_gives0 (C0 := C0) (N1 := fj_u1 (fj_u1 H 26 0 (24 * t + d) x) 25 0 t (nI (d + 1))) (e := d + 1) (v := 1) ht hg (qx_us _ _ _ _ _)
      rw [n102]
      simp (decide := true) only [dm_102_117, dm_102_145, dm_102_164, dm_102_181, dm_102_193, dm_102_211, dm_102_215, dm_102_216, dm_102_245, dm_102_267, dm_102_271, dm_102_272, dm_102_298, dm_102_306, dm_102_341, dm_102_358, dm_102_388, dm_102_411, dm_78, dm_87, ↓reduceIte, Option.bind_some, qz1, dm_107, dm_107_141, dm_107_156, dm_107_175, dm_107_192, dm_107_226, dm_107_237, dm_107_242, dm_107_287, dm_107_322, dm_107_218, dm_107_85, dm_107_99, dm_107_112, dm_108, dm_106, qx_cl (j := t) (show t ≤ 1000000 by omega), qx_neg (n := t) (show t ≤ 100000000 by omega), Nat.not_le.mpr ht, or_self, ha0, ha1, qx_cl (j := j) (show j ≤ 1000000 by omega), qx_neg (n := j) (show j ≤ 100000000 by omega), Nat.not_le.mpr hj, or_self, k36b, if_neg hl0, if_neg he0, h25, if_pos hle, h24, g2, q1, q2]
  · have c3 : ∀ N0 : fj_N, dm_54 t 34 (nI j) (C, N0) = some (3, (C, N0)) := fun N0 => by
      rw [c45]
      exact qk_45 (fun _ => rfl) (fun N0 => by rw [show dm_57 34 (nI j) (C, N0) = (dm_38 (nI j) (C, N0)).bind (fun q2 => if q2.1 = 0 then some (1, q2.2) else some (0, q2.2)) from rfl, qg38_i hj]; rfl) (by decide) (qk_over1 (o := 34) (k := 0) (g := 2) (fun _ => rfl) (by decide) (fun N0 => by simp (decide := true) only [dm_61, ↓reduceIte, qk_ints1 (M := (C, N0)) hin, Option.bind_some, qz1]; rfl) hX0 (by omega) (by omega) (by omega)) (Or.inr ⟨rfl, rfl⟩) N0
    have hle : ¬ nI d + 2 ≤ 24 := fun q => by
      rw [show (2 : Int32) = nI 2 from rfl, qx_add] at q
      have := (qx_le (a := d + 2) (b := 24) (by omega) (by omega)).mp q
      omega
    refine Or.inl ⟨3, by decide, by decide, c3, fun C0 => ?_⟩
    rw [n102]
    simp (decide := true) only [dm_102_117, dm_102_145, dm_102_164, dm_102_181, dm_102_193, dm_102_211, dm_102_215, dm_102_216, dm_102_245, dm_102_267, dm_102_271, dm_102_272, dm_102_298, dm_102_306, dm_102_341, dm_102_358, dm_102_388, dm_102_411, dm_78, dm_87, ↓reduceIte, Option.bind_some, qz1, dm_107, dm_107_141, dm_107_156, dm_107_175, dm_107_192, dm_107_226, dm_107_237, dm_107_242, dm_107_287, dm_107_322, dm_107_218, dm_107_85, dm_107_99, dm_107_112, dm_108, dm_106, qx_cl (j := t) (show t ≤ 1000000 by omega), qx_neg (n := t) (show t ≤ 100000000 by omega), Nat.not_le.mpr ht, or_self, ha0, ha1, qx_cl (j := j) (show j ≤ 1000000 by omega), qx_neg (n := j) (show j ≤ 100000000 by omega), Nat.not_le.mpr hj, or_self, k36b, if_neg hl0, if_neg he0, h25, if_neg hle]
theorem qx_shneg {x : Int32} (h : x < 0) : (x >>> ((3 : Int32) &&& 31)) < 0 := by
  have e := pk_shr x ((3 : Int32) &&& 31) 3 (by decide)
  rw [Int32.lt_iff_toInt_lt] at h ⊢
  have e0 : (0 : Int32).toInt = 0 := by decide
  rw [e, Int.shiftRight_eq_div_pow]
  rw [e0] at h ⊢
  have : (2 : Int) ^ 3 = 8 := by decide
  omega
theorem qo_35 (hX : qX b C N t d r) : qY b C N t 35 a (qg t pl 35 a) := by
  have hX0 := hX
  obtain ⟨⟨hb, hR, h27, h8, ht, hs⟩, ⟨h4, hd, h5, hr⟩, h24, h25, h27r, hst, hrt⟩ := hX
  have c4 : (fj_u1 C 7 t 3 (C 7 t 3 + 1)) 7 t 4 = nI d := by rw [qx_un (by omega)]; exact h4
  have e25 : (fj_u1 N 24 0 t (C 7 t 3 + 1)) 25 0 t = nI d := by rw [qx_un (by omega)]; exact h25
  have c8 : ∀ j, (fj_u1 C 7 t 3 (C 7 t 3 + 1)) 8 t j = C 8 t j := fun j => qx_un (by omega)
  have h55 := qk_55 (o := 35) (k := 0) (fun _ => rfl) (by decide) (by decide) hX0 (by omega)
  have c45 : ∀ N0 : fj_N, dm_54 t 35 a (C, N0) = dm_54_45 t 35 a (qtop C t d) (C, N0) := fun N0 => by
    have h := qk_54 (o := 35) (a := a) (fun _ => rfl) h55 (by decide) hX0 N0
    exact h
  have n102 := qn_go0 (o := 35) (a := a) (pl := pl) (fun _ => rfl) (by decide) hX0
  obtain ⟨j, hj8, hc⟩ := pk_andE a (m := 7) 3 (by decide)
  by_cases hj : j < 6
  rotate_left
  · have h6 : nI 6 ≤ nI j := (qx_le (a := 6) (b := j) (by omega) (by omega)).mpr (by omega)
    have h5b : (5 : Int32) < nI j := (qx_lt (a := 5) (b := j) (by omega) (by omega)).mpr (by omega)
    have h0b : ¬ nI j < 0 := qx_neg (by omega)
    exact Or.inl ⟨6, by decide, by decide, fun N0 => by rw [c45]; exact qk_45_6 (fun _ => rfl) (fun N0 => by simp (decide := true) only [dm_57, ↓reduceIte, Option.bind_some, qz1, hc, qg38_o (Or.inr ⟨h0b, h6⟩)]) N0, fun C0 => by by_cases hA : a < 0 <;> (rw [n102]; simp (decide := true) only [dm_102_117, dm_102_145, dm_102_164, dm_102_181, dm_102_193, dm_102_211, dm_102_215, dm_102_216, dm_102_245, dm_102_267, dm_102_271, dm_102_272, dm_102_298, dm_102_306, dm_102_341, dm_102_358, dm_102_388, dm_102_411, dm_78, dm_87, ↓reduceIte, Option.bind_some, qz1, dm_109, dm_109_24, dm_109_29, dm_109_47, dm_109_66, dm_109_87, qx_cl (j := t) (show t ≤ 1000000 by omega), qx_neg (n := t) (show t ≤ 100000000 by omega), Nat.not_le.mpr ht, or_self, hA, hc, h0b, h5b])⟩
  have ha0 : ¬ nI j < 0 := qx_neg (by omega)
  have ha1 : ¬ (5 : Int32) < nI j := fun q => by
    have := (qx_lt (a := 5) (b := j) (by omega) (by omega)).mp q
    omega
  rcases qx_ix (a >>> ((3 : Int32) &&& 31)) (n := 6) (by decide) with h | h | ⟨l, hl, hd2⟩
  · exact Or.inl ⟨6, by decide, by decide, fun N0 => by rw [c45]; exact qk_45_6 (fun _ => rfl) (fun N0 => by simp (decide := true) only [dm_57, ↓reduceIte, Option.bind_some, qz1, hc, qg38_i hj, qg38_o (Or.inl h)]) N0, fun C0 => by by_cases hA : a < 0 <;> (rw [n102]; simp (decide := true) only [dm_102_117, dm_102_145, dm_102_164, dm_102_181, dm_102_193, dm_102_211, dm_102_215, dm_102_216, dm_102_245, dm_102_267, dm_102_271, dm_102_272, dm_102_298, dm_102_306, dm_102_341, dm_102_358, dm_102_388, dm_102_411, dm_78, dm_87, ↓reduceIte, Option.bind_some, qz1, dm_109, dm_109_24, dm_109_29, dm_109_47, dm_109_66, dm_109_87, qx_cl (j := t) (show t ≤ 1000000 by omega), qx_neg (n := t) (show t ≤ 100000000 by omega), Nat.not_le.mpr ht, or_self, hA, hc, ha0, ha1, h])⟩
  · have h1 : (5 : Int32) < a >>> ((3 : Int32) &&& 31) := (qx_pred (n := 6) (by omega) (by omega)).mpr h.2
    exact Or.inl ⟨6, by decide, by decide, fun N0 => by rw [c45]; exact qk_45_6 (fun _ => rfl) (fun N0 => by simp (decide := true) only [dm_57, ↓reduceIte, Option.bind_some, qz1, hc, qg38_i hj, qg38_o (Or.inr h)]) N0, fun C0 => by by_cases hA : a < 0 <;> (rw [n102]; simp (decide := true) only [dm_102_117, dm_102_145, dm_102_164, dm_102_181, dm_102_193, dm_102_211, dm_102_215, dm_102_216, dm_102_245, dm_102_267, dm_102_271, dm_102_272, dm_102_298, dm_102_306, dm_102_341, dm_102_358, dm_102_388, dm_102_411, dm_78, dm_87, ↓reduceIte, Option.bind_some, qz1, dm_109, dm_109_24, dm_109_29, dm_109_47, dm_109_66, dm_109_87, qx_cl (j := t) (show t ≤ 1000000 by omega), qx_neg (n := t) (show t ≤ 100000000 by omega), Nat.not_le.mpr ht, or_self, hA, hc, ha0, ha1, h.1, h1])⟩
  have hA : ¬ a < 0 := fun q => absurd (qx_shneg q) (by rw [hd2]; exact qx_neg (by omega))
  have hl0 : ¬ nI l < 0 := qx_neg (by omega)
  have hl1 : ¬ (5 : Int32) < nI l := fun q => by
    have := (qx_lt (a := 5) (b := l) (by omega) (by omega)).mp q
    omega
  have h57 : ∀ N0 : fj_N, dm_57 35 a (C, N0) = some (0, (C, N0)) := fun N0 => by simp (decide := true) only [dm_57, ↓reduceIte, hc, hd2, qg38_i hj, qg38_i hl, Option.bind_some, qz1]
  obtain ⟨k36, k35, n, z, z1, z2, z3, z4, z5, z6⟩ := hR.2.2.2 j hj
  obtain ⟨k36', k35', n2, z', z1', z2', z3', z4', z5', z6'⟩ := hR.2.2.2 l hl
  by_cases hn0 : n = 0
  rotate_left
  · obtain ⟨m, rfl⟩ : ∃ m, n = m + 1 := ⟨n - 1, by omega⟩
    have hnc : ¬ C 10 j 1 ≤ 0 := by rw [z4]; exact nI_nle (by omega) (by omega)
    have k36b : N 36 0 j = nI (m + 1) := by rw [k36, z4]
    have hl00 : ¬ nI (m + 1) ≤ 0 := nI_nle (by omega) (by omega)
    have he00 : ¬ nI (m + 1) = 0 := nI_ne0 (by omega) (by omega)
    have hin : qh_ints C (nI j) := (qh_ints_j hj).mpr hnc
    have h61 : ∀ N0 : fj_N, dm_61 35 a (C, N0) = some (nI 2, (C, N0)) := fun N0 => by simp (decide := true) only [dm_61, ↓reduceIte, hc, qk_ints1 (M := (C, N0)) hin, Option.bind_some, qz1]; rfl
    have hth : qh_there (qwt C t 4 (nI j) (nI l)) t := Or.inr (Or.inr (Or.inl ⟨qwt_2, Or.inl (by rw [qwt_10]; exact (qwt_ints hj).mpr hnc)⟩))
    by_cases hg : d + 1 < 24
    rotate_left
    · have c3 : ∀ N0 : fj_N, dm_54 t 35 a (C, N0) = some (3, (C, N0)) := fun N0 => by
        rw [c45]
        exact qk_45 (fun _ => rfl) h57 (by decide) (qk_over1 (o := 35) (k := 0) (g := 2) (fun _ => rfl) (by decide) h61 hX0 (by omega) (by omega) (by omega)) (Or.inr ⟨rfl, rfl⟩) N0
      have hle : ¬ nI d + 2 ≤ 24 := fun q => by
        rw [show (2 : Int32) = nI 2 from rfl, qx_add] at q
        have := (qx_le (a := d + 2) (b := 24) (by omega) (by omega)).mp q
        omega
      refine Or.inl ⟨3, by decide, by decide, c3, fun C0 => ?_⟩
      rw [n102]
      simp (decide := true) only [dm_102_117, dm_102_145, dm_102_164, dm_102_181, dm_102_193, dm_102_211, dm_102_215, dm_102_216, dm_102_245, dm_102_267, dm_102_271, dm_102_272, dm_102_298, dm_102_306, dm_102_341, dm_102_358, dm_102_388, dm_102_411, dm_78, dm_87, ↓reduceIte, Option.bind_some, qz1, dm_107, dm_107_141, dm_107_156, dm_107_175, dm_107_192, dm_107_226, dm_107_237, dm_107_242, dm_107_287, dm_107_322, dm_107_218, dm_107_85, dm_107_99, dm_107_112, dm_108, dm_106, qx_cl (j := t) (show t ≤ 1000000 by omega), qx_neg (n := t) (show t ≤ 100000000 by omega), Nat.not_le.mpr ht, or_self, hA, hc, hd2, ha0, ha1, hl0, hl1, qx_cl (j := j) (show j ≤ 1000000 by omega), qx_neg (n := j) (show j ≤ 100000000 by omega), Nat.not_le.mpr hj, or_self, qx_cl (j := l) (show l ≤ 1000000 by omega), qx_neg (n := l) (show l ≤ 100000000 by omega), Nat.not_le.mpr hl, or_self, k36b, if_neg hl00, if_neg he00, h25, if_neg hle]
    have c0 : ∀ N0 : fj_N, dm_54 t 35 a (C, N0) = some (0, (C, N0)) := fun N0 => by
      rw [c45]
      exact qk_45 (fun _ => rfl) h57 (by decide) (qk_over0 (o := 35) (k := 0) (g := 2) (fun _ => rfl) (by decide) h61 hX0 (by omega) (by omega) (by omega)) (Or.inl ⟨rfl, rfl⟩) N0
    have hle : nI d + 2 ≤ 24 := by rw [show (2 : Int32) = nI 2 from rfl, qx_add]; exact (qx_le (a := d + 2) (b := 24) (by omega) (by omega)).mpr (by omega)
    have cw3 : (fj_u1 (fj_u1 (fj_u1 (fj_u1 C 7 t 2 4) 7 t 10 (nI j)) 7 t 11 (nI l)) 7 t 2 1) 7 t 3 = C 7 t 3 := by rw [qx_un (by omega), qx_un (by omega), qx_un (by omega), qx_un (by omega)]
    have w10 : (fj_u1 (fj_u1 (fj_u1 (fj_u1 (fj_u1 C 7 t 2 4) 7 t 10 (nI j)) 7 t 11 (nI l)) 7 t 2 1) 7 t 3 (C 7 t 3 + 1)) 10 j 1 = nI (m + 1) := by rw [qx_un (by omega), qx_un (by omega), qx_un (by omega), qx_un (by omega), qx_un (by omega)]; exact z4
    have w4 : (fj_u1 (fj_u1 (fj_u1 (fj_u1 (fj_u1 C 7 t 2 4) 7 t 10 (nI j)) 7 t 11 (nI l)) 7 t 2 1) 7 t 3 (C 7 t 3 + 1)) 7 t 4 = nI d := by rw [qx_un (by omega), qx_un (by omega), qx_un (by omega), qx_un (by omega), qx_un (by omega)]; exact h4
    have w7 : (fj_u1 (fj_u1 (fj_u1 (fj_u1 (fj_u1 C 7 t 2 4) 7 t 10 (nI j)) 7 t 11 (nI l)) 7 t 2 1) 7 t 3 (C 7 t 3 + 1)) 0 0 7 = C 0 0 7 := by rw [qx_un (by omega), qx_un (by omega), qx_un (by omega), qx_un (by omega), qx_un (by omega)]
    have wj : ∀ i9, (fj_u1 (fj_u1 (fj_u1 (fj_u1 (fj_u1 C 7 t 2 4) 7 t 10 (nI j)) 7 t 11 (nI l)) 7 t 2 1) 7 t 3 (C 7 t 3 + 1)) 10 i9 1 = C 10 i9 1 := fun i9 => by rw [qx_un (by omega), qx_un (by omega), qx_un (by omega), qx_un (by omega), qx_un (by omega)]
    have hin2 : qh_ints (fj_u1 (fj_u1 (fj_u1 (fj_u1 (fj_u1 C 7 t 2 4) 7 t 10 (nI j)) 7 t 11 (nI l)) 7 t 2 1) 7 t 3 (C 7 t 3 + 1)) (nI j) := by rw [qh_ints_j hj, wj]; exact hnc
    obtain ⟨G, H, g1, g2, g3, g4, g5⟩ := qx_goes (qR_place (v := C 7 t 3 + 1) (qR_wt (s := 4) (v1 := nI j) (v2 := nI l) hs hR ht) ht) hj w10 (by omega)
    have p0 := fun N0 : fj_N => qk_ints1 (M := (fj_u1 (fj_u1 (fj_u1 (fj_u1 (fj_u1 C 7 t 2 4) 7 t 10 (nI j)) 7 t 11 (nI l)) 7 t 2 1) 7 t 3 (C 7 t 3 + 1), N0)) hin2
    have gd : G 7 t 4 = nI d := by rw [g4 _ _ _ (by omega) (by omega)]; exact w4
    have hd25 : H 25 0 t = nI d := by rw [g5 _ _ _ (by omega) (by omega)]; exact e25
    have h27h : H 20 0 27 = 0 := by rw [g5 _ _ _ (by omega) (by omega), qx_un (by omega)]; exact h27
    have w7g : G 0 0 7 = C 0 0 7 := by rw [g4 _ _ _ (by omega) (by omega)]; exact w7
    generalize (fj_u1 (fj_u1 (fj_u1 (fj_u1 (fj_u1 C 7 t 2 4) 7 t 10 (nI j)) 7 t 11 (nI l)) 7 t 2 1) 7 t 3 (C 7 t 3 + 1)) 11 j 0 = x at *
    have gd2 : (fj_u1 (fj_u1 G 7 t 4 (nI (d + 1))) 8 t d x) 7 t 4 = nI (d + 1) := by rw [qx_un (by omega), qx_us]
    refine Or.inr (Or.inr ⟨fj_u1 (fj_u1 (fj_u1 (fj_u1 C 7 t 2 4) 7 t 10 (nI j)) 7 t 11 (nI l)) 7 t 2 1, _, _, _, c0, fun N0 => by
      have k0 := qk_there1 (M := (qwt C t 4 (nI j) (nI l), N0)) (i := t) hth
      unfold qwt at k0
      simp (decide := true) only [dm_53, ↓reduceIte, Option.bind_some, dm_10, dm_53_100, k0, qz1, hc, hd2], fun N0 => ?_, fun C0 => ?_, fun C0 => qn_spread0 (by rw [qx_un (by omega), qx_un (by omega), qx_un (by omega), qx_un (by omega)]; exact h27h) C0, qR_mono (qR_push (v := 0) (d0 := d + 1) gd2 hg (qR_push (v := x) (d0 := d) gd (by omega) g3 ht) ht) (Nat.le_succ b), by rw [qx_un (by omega), qx_un (by omega), qx_un (by omega), qx_un (by omega), w7g]⟩)
    · rw [cw3]
      have p1 := qk_push (M := (G, N0)) (i := t) (d := d) (x := x) gd (by omega)
      have p2 := qk_push (M := (fj_u1 (fj_u1 G 7 t 4 (nI (d + 1))) 8 t d x, N0)) (i := t) (d := d + 1) (x := 0) gd2 hg
      simp (decide := true) only [dm_64, dm_3, dm_3_12, ↓reduceIte, Option.bind_some, dm_70, hc, hd2, dm_73, dm_73_13, dm_73_25, p0, qz1, qg38_i hj, qx_cl (j := j) (show j ≤ 1000000 by omega), qx_neg (n := j) (show j ≤ 100000000 by omega), Nat.not_le.mpr hj, or_self, g1, p1, p2]
    · have q1 := qn_gives0 (C0 := C0) (N1 := H) (e := d) (v := x) ht (by omega) hd25
      have q2 := qn_gives0 (C0 := C0) (N1 := fj_u1 (fj_u1 H 26 0 (24 * t + d) x) 25 0 t (nI (d + 1))) (e := d + 1) (v := 0) ht hg (qx_us _ _ _ _ _)
      rw [n102]
      simp (decide := true) only [dm_102_117, dm_102_145, dm_102_164, dm_102_181, dm_102_193, dm_102_211, dm_102_215, dm_102_216, dm_102_245, dm_102_267, dm_102_271, dm_102_272, dm_102_298, dm_102_306, dm_102_341, dm_102_358, dm_102_388, dm_102_411, dm_78, dm_87, ↓reduceIte, Option.bind_some, qz1, dm_107, dm_107_141, dm_107_156, dm_107_175, dm_107_192, dm_107_226, dm_107_237, dm_107_242, dm_107_287, dm_107_322, dm_107_218, dm_107_85, dm_107_99, dm_107_112, dm_108, dm_106, qx_cl (j := t) (show t ≤ 1000000 by omega), qx_neg (n := t) (show t ≤ 100000000 by omega), Nat.not_le.mpr ht, or_self, hA, hc, hd2, ha0, ha1, hl0, hl1, qx_cl (j := j) (show j ≤ 1000000 by omega), qx_neg (n := j) (show j ≤ 100000000 by omega), Nat.not_le.mpr hj, or_self, qx_cl (j := l) (show l ≤ 1000000 by omega), qx_neg (n := l) (show l ≤ 100000000 by omega), Nat.not_le.mpr hl, or_self, k36b, if_neg hl00, if_neg he00, h25, if_pos hle, h24, g2, q1, q2]
  have hn0c : C 10 j 1 ≤ 0 := by rw [z4, hn0]; decide
  have hn0n : N 36 0 j = 0 := by rw [k36, z4, hn0]; rfl
  have hin : ¬ qh_ints C (nI j) := fun q => (qh_ints_j hj).mp q hn0c
  by_cases hm0 : n2 = 0
  · have hm0c : C 10 l 1 ≤ 0 := by rw [z4', hm0]; decide
    have hm0n : N 36 0 l = 0 := by rw [k36', z4', hm0]; rfl
    have hin3 : ¬ qh_ints C (nI l) := fun q => (qh_ints_j hl).mp q hm0c
    have h61 : ∀ N0 : fj_N, dm_61 35 a (C, N0) = some (nI 0, (C, N0)) := fun N0 => by simp (decide := true) only [dm_61, ↓reduceIte, hc, hd2, qk_ints0 (M := (C, N0)) hin, qk_ints0 (M := (C, N0)) hin3, Option.bind_some]; rfl
    have c0 : ∀ N0 : fj_N, dm_54 t 35 a (C, N0) = some (0, (C, N0)) := fun N0 => by
      rw [c45]
      exact qk_45 (fun _ => rfl) h57 (by decide) (qk_over0 (o := 35) (k := 0) (g := 0) (fun _ => rfl) (by decide) h61 hX0 (by omega) (by omega) (by omega)) (Or.inl ⟨rfl, rfl⟩) N0
    have hth : ¬ qh_there (qwt C t 4 (nI j) (nI l)) t := by
      rintro (⟨h, h2⟩ | ⟨h, h2⟩ | ⟨h, h2⟩ | ⟨h, h2⟩)
      · rw [qwt_2] at h; exact absurd h (by decide)
      · rw [qwt_2] at h; exact absurd h (by decide)
      · rw [qwt_10, qwt_11] at h2; exact h2.elim (fun q => (qwt_ints hj).mp q hn0c) (fun q => (qwt_ints hl).mp q hm0c)
      · rw [qwt_2] at h; exact absurd h (by decide)
    refine Or.inr (Or.inl ⟨qwt C t 4 (nI j) (nI l), _, c0, fun N0 => ?_, fun C0 => ?_, qR_mono (qR_wchoose (c := j) (ca := l) hj hl hs hR ht) (Nat.le_succ b), by (repeat rw [qx_un (by omega)]); exact h27, by rw [qwt_o (by omega)]⟩)
    · have k0 := qk_there0 (M := (qwt C t 4 (nI j) (nI l), N0)) (i := t) hth
      unfold qwt at k0 ⊢
      simp (decide := true) only [dm_53, ↓reduceIte, Option.bind_some, dm_10, dm_53_100, k0, hc, hd2]
    · rw [n102]
      simp (decide := true) only [dm_102_117, dm_102_145, dm_102_164, dm_102_181, dm_102_193, dm_102_211, dm_102_215, dm_102_216, dm_102_245, dm_102_267, dm_102_271, dm_102_272, dm_102_298, dm_102_306, dm_102_341, dm_102_358, dm_102_388, dm_102_411, dm_78, dm_87, ↓reduceIte, Option.bind_some, qz1, dm_107, dm_107_141, dm_107_156, dm_107_175, dm_107_192, dm_107_226, dm_107_237, dm_107_242, dm_107_287, dm_107_322, dm_107_218, dm_107_85, dm_107_99, dm_107_112, dm_108, dm_106, qx_cl (j := t) (show t ≤ 1000000 by omega), qx_neg (n := t) (show t ≤ 100000000 by omega), Nat.not_le.mpr ht, or_self, hA, hc, hd2, ha0, ha1, hl0, hl1, qx_cl (j := j) (show j ≤ 1000000 by omega), qx_neg (n := j) (show j ≤ 100000000 by omega), Nat.not_le.mpr hj, or_self, qx_cl (j := l) (show l ≤ 1000000 by omega), qx_neg (n := l) (show l ≤ 100000000 by omega), Nat.not_le.mpr hl, or_self, hn0n, hm0n]
  obtain ⟨m, rfl⟩ : ∃ m, n2 = m + 1 := ⟨n2 - 1, by omega⟩
  have hnc : ¬ C 10 l 1 ≤ 0 := by rw [z4']; exact nI_nle (by omega) (by omega)
  have k36c : N 36 0 l = nI (m + 1) := by rw [k36', z4']
  have he00 : ¬ nI (m + 1) = 0 := nI_ne0 (by omega) (by omega)
  have hjl : ¬ nI j = nI l := fun q => by
    have q2 := (qx_eq (a := j) (b := l) (by omega) (by omega)).mp q
    rw [q2, k36c] at hn0n
    exact he00 hn0n
  have hin3 : qh_ints C (nI l) := (qh_ints_j hl).mpr hnc
  have h61 : ∀ N0 : fj_N, dm_61 35 a (C, N0) = some (nI 2, (C, N0)) := fun N0 => by simp (decide := true) only [dm_61, ↓reduceIte, hc, hd2, qk_ints0 (M := (C, N0)) hin, qk_ints1 (M := (C, N0)) hin3, Option.bind_some, qz1]; rfl
  have hth : qh_there (qwt C t 4 (nI j) (nI l)) t := Or.inr (Or.inr (Or.inl ⟨qwt_2, Or.inr (by rw [qwt_11]; exact (qwt_ints hl).mpr hnc)⟩))
  by_cases hg : d + 1 < 24
  · have c0 : ∀ N0 : fj_N, dm_54 t 35 a (C, N0) = some (0, (C, N0)) := fun N0 => by
      rw [c45]
      exact qk_45 (fun _ => rfl) h57 (by decide) (qk_over0 (o := 35) (k := 0) (g := 2) (fun _ => rfl) (by decide) h61 hX0 (by omega) (by omega) (by omega)) (Or.inl ⟨rfl, rfl⟩) N0
    have hle : nI d + 2 ≤ 24 := by rw [show (2 : Int32) = nI 2 from rfl, qx_add]; exact (qx_le (a := d + 2) (b := 24) (by omega) (by omega)).mpr (by omega)
    have cw3 : (fj_u1 (fj_u1 (fj_u1 (fj_u1 C 7 t 2 4) 7 t 10 (nI j)) 7 t 11 (nI l)) 7 t 2 1) 7 t 3 = C 7 t 3 := by rw [qx_un (by omega), qx_un (by omega), qx_un (by omega), qx_un (by omega)]
    have w10 : (fj_u1 (fj_u1 (fj_u1 (fj_u1 (fj_u1 C 7 t 2 4) 7 t 10 (nI j)) 7 t 11 (nI l)) 7 t 2 1) 7 t 3 (C 7 t 3 + 1)) 10 l 1 = nI (m + 1) := by rw [qx_un (by omega), qx_un (by omega), qx_un (by omega), qx_un (by omega), qx_un (by omega)]; exact z4'
    have w4 : (fj_u1 (fj_u1 (fj_u1 (fj_u1 (fj_u1 C 7 t 2 4) 7 t 10 (nI j)) 7 t 11 (nI l)) 7 t 2 1) 7 t 3 (C 7 t 3 + 1)) 7 t 4 = nI d := by rw [qx_un (by omega), qx_un (by omega), qx_un (by omega), qx_un (by omega), qx_un (by omega)]; exact h4
    have w7 : (fj_u1 (fj_u1 (fj_u1 (fj_u1 (fj_u1 C 7 t 2 4) 7 t 10 (nI j)) 7 t 11 (nI l)) 7 t 2 1) 7 t 3 (C 7 t 3 + 1)) 0 0 7 = C 0 0 7 := by rw [qx_un (by omega), qx_un (by omega), qx_un (by omega), qx_un (by omega), qx_un (by omega)]
    have wj : ∀ i9, (fj_u1 (fj_u1 (fj_u1 (fj_u1 (fj_u1 C 7 t 2 4) 7 t 10 (nI j)) 7 t 11 (nI l)) 7 t 2 1) 7 t 3 (C 7 t 3 + 1)) 10 i9 1 = C 10 i9 1 := fun i9 => by rw [qx_un (by omega), qx_un (by omega), qx_un (by omega), qx_un (by omega), qx_un (by omega)]
    have hin2 : ¬ qh_ints (fj_u1 (fj_u1 (fj_u1 (fj_u1 (fj_u1 C 7 t 2 4) 7 t 10 (nI j)) 7 t 11 (nI l)) 7 t 2 1) 7 t 3 (C 7 t 3 + 1)) (nI j) := by rw [qh_ints_j hj, wj]; exact fun q => q hn0c
    obtain ⟨G, H, g1, g2, g3, g4, g5⟩ := qx_goes (qR_place (v := C 7 t 3 + 1) (qR_wt (s := 4) (v1 := nI j) (v2 := nI l) hs hR ht) ht) hl w10 (by omega)
    have p0 := fun N0 : fj_N => qk_ints0 (M := (fj_u1 (fj_u1 (fj_u1 (fj_u1 (fj_u1 C 7 t 2 4) 7 t 10 (nI j)) 7 t 11 (nI l)) 7 t 2 1) 7 t 3 (C 7 t 3 + 1), N0)) hin2
    have gd : G 7 t 4 = nI d := by rw [g4 _ _ _ (by omega) (by omega)]; exact w4
    have hd25 : H 25 0 t = nI d := by rw [g5 _ _ _ (by omega) (by omega)]; exact e25
    have h27h : H 20 0 27 = 0 := by rw [g5 _ _ _ (by omega) (by omega), qx_un (by omega)]; exact h27
    have w7g : G 0 0 7 = C 0 0 7 := by rw [g4 _ _ _ (by omega) (by omega)]; exact w7
    generalize (fj_u1 (fj_u1 (fj_u1 (fj_u1 (fj_u1 C 7 t 2 4) 7 t 10 (nI j)) 7 t 11 (nI l)) 7 t 2 1) 7 t 3 (C 7 t 3 + 1)) 11 l 0 = x at *
    have gd2 : (fj_u1 (fj_u1 G 7 t 4 (nI (d + 1))) 8 t d x) 7 t 4 = nI (d + 1) := by rw [qx_un (by omega), qx_us]
    refine Or.inr (Or.inr ⟨fj_u1 (fj_u1 (fj_u1 (fj_u1 C 7 t 2 4) 7 t 10 (nI j)) 7 t 11 (nI l)) 7 t 2 1, _, _, _, c0, fun N0 => by
      have k0 := qk_there1 (M := (qwt C t 4 (nI j) (nI l), N0)) (i := t) hth
      unfold qwt at k0
      simp (decide := true) only [dm_53, ↓reduceIte, Option.bind_some, dm_10, dm_53_100, k0, qz1, hc, hd2], fun N0 => ?_, fun C0 => ?_, fun C0 => qn_spread0 (by rw [qx_un (by omega), qx_un (by omega), qx_un (by omega), qx_un (by omega)]; exact h27h) C0, qR_mono (qR_push (v := 1) (d0 := d + 1) gd2 hg (qR_push (v := x) (d0 := d) gd (by omega) g3 ht) ht) (Nat.le_succ b), by rw [qx_un (by omega), qx_un (by omega), qx_un (by omega), qx_un (by omega), w7g]⟩)
    · rw [cw3]
      have p1 := qk_push (M := (G, N0)) (i := t) (d := d) (x := x) gd (by omega)
      have p2 := qk_push (M := (fj_u1 (fj_u1 G 7 t 4 (nI (d + 1))) 8 t d x, N0)) (i := t) (d := d + 1) (x := 1) gd2 hg
      simp (decide := true) only [dm_64, dm_3, dm_3_12, ↓reduceIte, Option.bind_some, dm_70, hc, hd2, dm_73, dm_73_13, dm_73_25, p0, qz1, qg38_i hl, qx_cl (j := l) (show l ≤ 1000000 by omega), qx_neg (n := l) (show l ≤ 100000000 by omega), Nat.not_le.mpr hl, or_self, g1, p1, p2]
    · have q1 := qn_gives0 (C0 := C0) (N1 := H) (e := d) (v := x) ht (by omega) hd25
      have q2 := qn_gives0 (C0 := C0) (N1 := fj_u1 (fj_u1 H 26 0 (24 * t + d) x) 25 0 t (nI (d + 1))) (e := d + 1) (v := 1) ht hg (qx_us _ _ _ _ _)
      rw [n102]
      simp (decide := true) only [dm_102_117, dm_102_145, dm_102_164, dm_102_181, dm_102_193, dm_102_211, dm_102_215, dm_102_216, dm_102_245, dm_102_267, dm_102_271, dm_102_272, dm_102_298, dm_102_306, dm_102_341, dm_102_358, dm_102_388, dm_102_411, dm_78, dm_87, ↓reduceIte, Option.bind_some, qz1, dm_107, dm_107_141, dm_107_156, dm_107_175, dm_107_192, dm_107_226, dm_107_237, dm_107_242, dm_107_287, dm_107_322, dm_107_218, dm_107_85, dm_107_99, dm_107_112, dm_108, dm_106, qx_cl (j := t) (show t ≤ 1000000 by omega), qx_neg (n := t) (show t ≤ 100000000 by omega), Nat.not_le.mpr ht, or_self, hA, hc, hd2, ha0, ha1, hl0, hl1, qx_cl (j := j) (show j ≤ 1000000 by omega), qx_neg (n := j) (show j ≤ 100000000 by omega), Nat.not_le.mpr hj, or_self, qx_cl (j := l) (show l ≤ 1000000 by omega), qx_neg (n := l) (show l ≤ 100000000 by omega), Nat.not_le.mpr hl, or_self, hn0n, k36c, if_neg he00, if_neg hjl, h25, if_pos hle, h24, g2, q1, q2]
  · have c3 : ∀ N0 : fj_N, dm_54 t 35 a (C, N0) = some (3, (C, N0)) := fun N0 => by
      rw [c45]
      exact qk_45 (fun _ => rfl) h57 (by decide) (qk_over1 (o := 35) (k := 0) (g := 2) (fun _ => rfl) (by decide) h61 hX0 (by omega) (by omega) (by omega)) (Or.inr ⟨rfl, rfl⟩) N0
    have hle : ¬ nI d + 2 ≤ 24 := fun q => by
      rw [show (2 : Int32) = nI 2 from rfl, qx_add] at q
      have := (qx_le (a := d + 2) (b := 24) (by omega) (by omega)).mp q
      omega
    refine Or.inl ⟨3, by decide, by decide, c3, fun C0 => ?_⟩
    rw [n102]
    simp (decide := true) only [dm_102_117, dm_102_145, dm_102_164, dm_102_181, dm_102_193, dm_102_211, dm_102_215, dm_102_216, dm_102_245, dm_102_267, dm_102_271, dm_102_272, dm_102_298, dm_102_306, dm_102_341, dm_102_358, dm_102_388, dm_102_411, dm_78, dm_87, ↓reduceIte, Option.bind_some, qz1, dm_107, dm_107_141, dm_107_156, dm_107_175, dm_107_192, dm_107_226, dm_107_237, dm_107_242, dm_107_287, dm_107_322, dm_107_218, dm_107_85, dm_107_99, dm_107_112, dm_108, dm_106, qx_cl (j := t) (show t ≤ 1000000 by omega), qx_neg (n := t) (show t ≤ 100000000 by omega), Nat.not_le.mpr ht, or_self, hA, hc, hd2, ha0, ha1, hl0, hl1, qx_cl (j := j) (show j ≤ 1000000 by omega), qx_neg (n := j) (show j ≤ 100000000 by omega), Nat.not_le.mpr hj, or_self, qx_cl (j := l) (show l ≤ 1000000 by omega), qx_neg (n := l) (show l ≤ 100000000 by omega), Nat.not_le.mpr hl, or_self, hn0n, k36c, if_neg he00, h25, if_neg hle]
end QO6
