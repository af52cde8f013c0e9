/-! OPS THAT RECKON -/
section QO1
variable {b : Nat} {C N : fj_N} {t d r : Nat} {a pl : Int32}
theorem qo_0 (hX : qX b C N t d r) : qY b C N t 0 a (qg t pl 0 a) := by
  have hX0 := hX
  obtain ⟨⟨hb, hR, h27, h8, ht, hs⟩, ⟨h4, hd, h5, hr⟩, h24, h25, h27r, hst, hrt⟩ := hX
  have c4 : (fj_u1 C 7 t 3 (C 7 t 3 + 1)) 7 t 4 = nI d := by rw [qx_un (by omega)]; exact h4
  have e25 : (fj_u1 N 24 0 t (C 7 t 3 + 1)) 25 0 t = nI d := by rw [qx_un (by omega)]; exact h25
  have c8 : ∀ j, (fj_u1 C 7 t 3 (C 7 t 3 + 1)) 8 t j = C 8 t j := fun j => qx_un (by omega)
  have h55 := qk_55 (o := 0) (k := 0) (fun _ => rfl) (by decide) (by decide) hX0 (by omega)
  have c45 : ∀ N0 : fj_N, dm_54 t 0 a (C, N0) = dm_54_45 t 0 a (qtop C t d) (C, N0) := fun N0 => by
    have h := qk_54 (o := 0) (a := a) (fun _ => rfl) h55 (by decide) hX0 N0
    exact h
  have n102 := qn_go0 (o := 0) (a := a) (pl := pl) (fun _ => rfl) (by decide) hX0
  have c0 : ∀ N0 : fj_N, dm_54 t 0 a (C, N0) = some (0, (C, N0)) := fun N0 => by
    rw [c45]
    exact qk_45 (fun _ => rfl) (fun _ => rfl) (by decide) (qk_over0 (o := 0) (k := 0) (g := 0) (fun _ => rfl) (by decide) (fun _ => rfl) hX0 (by omega) (by omega) (by omega)) (Or.inl ⟨rfl, rfl⟩) N0
  have hle : nI d + 0 ≤ 24 := by rw [Int32.add_zero]; exact (qx_le (a := d) (b := 24) (by omega) (by omega)).mpr (by omega)
  refine Or.inr (Or.inr ⟨C, _, _, _, c0, fun N0 => rfl, fun N0 => ?_, fun C0 => ?_, fun C0 => qn_spread0 (by (repeat rw [qx_un (by omega)]); exact h27) C0, qR_mono (qR_place (v := C 7 t 3 + 1) hR ht) (Nat.le_succ b), by repeat rw [qx_un (by omega)]⟩)
  · rfl
  · have r117 : dm_102_117 (nI t) pl 0 a 0 0 (C0, N) = (dm_104 (nI t) 0 a 0 0 (C0, N)).bind fun q2 => some (q2.1, q2.2) := rfl
    rw [n102, r117]
    simp (decide := true) only [dm_104, dm_103, qx_cl (j := t) (show t ≤ 1000000 by omega), qx_neg (n := t) (show t ≤ 100000000 by omega), Nat.not_le.mpr ht, or_self, ↓reduceIte, Option.bind_some, h25, if_pos hle, h24]
theorem qo_1 (hX : qX b C N t d r) : qY b C N t 1 a (qg t pl 1 a) := by
  have hX0 := hX
  obtain ⟨⟨hb, hR, h27, h8, ht, hs⟩, ⟨h4, hd, h5, hr⟩, h24, h25, h27r, hst, hrt⟩ := hX
  have c4 : (fj_u1 C 7 t 3 (C 7 t 3 + 1)) 7 t 4 = nI d := by rw [qx_un (by omega)]; exact h4
  have e25 : (fj_u1 N 24 0 t (C 7 t 3 + 1)) 25 0 t = nI d := by rw [qx_un (by omega)]; exact h25
  have c8 : ∀ j, (fj_u1 C 7 t 3 (C 7 t 3 + 1)) 8 t j = C 8 t j := fun j => qx_un (by omega)
  have h55 := qk_55 (o := 1) (k := 0) (fun _ => rfl) (by decide) (by decide) hX0 (by omega)
  have c45 : ∀ N0 : fj_N, dm_54 t 1 a (C, N0) = dm_54_45 t 1 a (qtop C t d) (C, N0) := fun N0 => by
    have h := qk_54 (o := 1) (a := a) (fun _ => rfl) h55 (by decide) hX0 N0
    exact h
  have n102 := qn_go0 (o := 1) (a := a) (pl := pl) (fun _ => rfl) (by decide) hX0
  by_cases hg : d < 24
  · have c0 : ∀ N0 : fj_N, dm_54 t 1 a (C, N0) = some (0, (C, N0)) := fun N0 => by
      rw [c45]
      exact qk_45 (fun _ => rfl) (fun _ => rfl) (by decide) (qk_over0 (o := 1) (k := 0) (g := 1) (fun _ => rfl) (by decide) (fun _ => rfl) hX0 (by omega) (by omega) (by omega)) (Or.inl ⟨rfl, rfl⟩) N0
    have hle : nI d + 1 ≤ 24 := by rw [nI_1]; exact (qx_le (a := d + 1) (b := 24) (by omega) (by omega)).mpr (by omega)
    refine Or.inr (Or.inr ⟨C, _, _, _, c0, fun N0 => rfl, fun N0 => ?_, fun C0 => ?_, fun C0 => qn_spread0 (by (repeat rw [qx_un (by omega)]); exact h27) C0, qR_mono (qR_push (v := a) (d0 := d) c4 hg (qR_place (v := C 7 t 3 + 1) hR ht) ht) (Nat.le_succ b), by repeat rw [qx_un (by omega)]⟩)
    · have p1 := qk_push (M := (fj_u1 C 7 t 3 (C 7 t 3 + 1), N0)) (i := t) (d := d) (x := a) c4 hg
      simp (decide := true) only [dm_64, dm_65, ↓reduceIte, Option.bind_some, p1]
    · have r117 : dm_102_117 (nI t) pl 1 a 0 0 (C0, N) = (dm_104 (nI t) 1 a 0 0 (C0, N)).bind fun q2 => some (q2.1, q2.2) := rfl
      rw [n102, r117]
      simp (decide := true) only [dm_104, dm_103, qx_cl (j := t) (show t ≤ 1000000 by omega), qx_neg (n := t) (show t ≤ 100000000 by omega), Nat.not_le.mpr ht, or_self, ↓reduceIte, Option.bind_some, h25, if_pos hle, h24, qn_gives0 (C0 := C0) (N1 := fj_u1 N 24 0 t (C 7 t 3 + 1)) (e := d) (v := a) ht hg e25]
  · have c3 : ∀ N0 : fj_N, dm_54 t 1 a (C, N0) = some (3, (C, N0)) := fun N0 => by
      rw [c45]
      exact qk_45 (fun _ => rfl) (fun _ => rfl) (by decide) (qk_over1 (o := 1) (k := 0) (g := 1) (fun _ => rfl) (by decide) (fun _ => rfl) hX0 (by omega) (by omega) (by omega)) (Or.inr ⟨rfl, rfl⟩) N0
    have hle : ¬ nI d + 1 ≤ 24 := fun q => by
      rw [nI_1] at q
      have := (qx_le (a := d + 1) (b := 24) (by omega) (by omega)).mp q
      omega
    refine Or.inl ⟨3, by decide, by decide, c3, fun C0 => ?_⟩
    have r117 : dm_102_117 (nI t) pl 1 a 0 0 (C0, N) = (dm_104 (nI t) 1 a 0 0 (C0, N)).bind fun q2 => some (q2.1, q2.2) := rfl
    rw [n102, r117]
    simp (decide := true) only [dm_104, dm_103, qx_cl (j := t) (show t ≤ 1000000 by omega), qx_neg (n := t) (show t ≤ 100000000 by omega), Nat.not_le.mpr ht, or_self, ↓reduceIte, Option.bind_some, h25, if_neg hle]
theorem qo_3 (hX : qX b C N t d r) : qY b C N t 3 a (qg t pl 3 a) := by
  by_cases hk : d < 1
  · exact Or.inl ⟨2, by decide, by decide, qk_few (o := 3) (k := 1) (fun _ => rfl) (fun _ => rfl) (by omega) hX hk, qn_few (o := 3) (k := 1) (fun _ => rfl) (by omega) hX hk⟩
  obtain ⟨e, rfl⟩ : ∃ e, d = e + 1 := ⟨d - 1, by omega⟩
  have hX0 := hX
  obtain ⟨⟨hb, hR, h27, h8, ht, hs⟩, ⟨h4, hd, h5, hr⟩, h24, h25, h27r, hst, hrt⟩ := hX
  have c4 : (fj_u1 C 7 t 3 (C 7 t 3 + 1)) 7 t 4 = nI (e + 1) := by rw [qx_un (by omega)]; exact h4
  have e25 : (fj_u1 N 24 0 t (C 7 t 3 + 1)) 25 0 t = nI (e + 1) := by rw [qx_un (by omega)]; exact h25
  have c8 : ∀ j, (fj_u1 C 7 t 3 (C 7 t 3 + 1)) 8 t j = C 8 t j := fun j => qx_un (by omega)
  have h55 := qk_55 (o := 3) (k := 1) (fun _ => rfl) (by decide) (by decide) hX0 (by omega)
  have c45 : ∀ N0 : fj_N, dm_54 t 3 a (C, N0) = dm_54_45 t 3 a (C 8 t e) (C, N0) := fun N0 => by
    have h := qk_54 (o := 3) (a := a) (fun _ => rfl) h55 (by decide) hX0 N0
    rw [qtop_s] at h
    exact h
  have n102 := qn_go1 (o := 3) (a := a) (pl := pl) (fun _ => rfl) (by decide) hX0
  by_cases hg : (e + 1) < 24
  · have c0 : ∀ N0 : fj_N, dm_54 t 3 a (C, N0) = some (0, (C, N0)) := fun N0 => by
      rw [c45]
      exact qk_45 (fun _ => rfl) (fun _ => rfl) (by decide) (qk_over0 (o := 3) (k := 1) (g := 2) (fun _ => rfl) (by decide) (fun _ => rfl) hX0 (by omega) (by omega) (by omega)) (Or.inl ⟨rfl, rfl⟩) N0
    have hle : nI (e + 1) + 1 ≤ 24 := by rw [nI_1]; exact (qx_le (a := (e + 1) + 1) (b := 24) (by omega) (by omega)).mpr (by omega)
    refine Or.inr (Or.inr ⟨C, _, _, _, c0, fun N0 => rfl, fun N0 => ?_, fun C0 => ?_, fun C0 => qn_spread0 (by (repeat rw [qx_un (by omega)]); exact h27) C0, qR_mono (qR_push (v := (C 8 t e)) (d0 := (e + 1)) c4 hg (qR_place (v := C 7 t 3 + 1) hR ht) ht) (Nat.le_succ b), by repeat rw [qx_un (by omega)]⟩)
    · have p1 := qk_push (M := (fj_u1 C 7 t 3 (C 7 t 3 + 1), N0)) (i := t) (d := (e + 1)) (x := (C 8 t e)) c4 hg
      have b1 := qk_below0 (M := (fj_u1 C 7 t 3 (C 7 t 3 + 1), N0)) (i := t) (d := e) c4 (by omega)
      simp (decide := true) only [dm_64, dm_65, ↓reduceIte, Option.bind_some, b1, c8, p1]
    · have r117 : dm_102_117 (nI t) pl 3 a (C 8 t e) 0 (C0, N) = (dm_104 (nI t) 3 a (C 8 t e) 0 (C0, N)).bind fun q2 => some (q2.1, q2.2) := rfl
      rw [n102, r117]
      simp (decide := true) only [dm_104, dm_103, qx_cl (j := t) (show t ≤ 1000000 by omega), qx_neg (n := t) (show t ≤ 100000000 by omega), Nat.not_le.mpr ht, or_self, ↓reduceIte, Option.bind_some, h25, if_pos hle, h24, qn_gives0 (C0 := C0) (N1 := fj_u1 N 24 0 t (C 7 t 3 + 1)) (e := (e + 1)) (v := (C 8 t e)) ht hg e25]
  · have c3 : ∀ N0 : fj_N, dm_54 t 3 a (C, N0) = some (3, (C, N0)) := fun N0 => by
      rw [c45]
      exact qk_45 (fun _ => rfl) (fun _ => rfl) (by decide) (qk_over1 (o := 3) (k := 1) (g := 2) (fun _ => rfl) (by decide) (fun _ => rfl) hX0 (by omega) (by omega) (by omega)) (Or.inr ⟨rfl, rfl⟩) N0
    have hle : ¬ nI (e + 1) + 1 ≤ 24 := fun q => by
      rw [nI_1] at q
      have := (qx_le (a := (e + 1) + 1) (b := 24) (by omega) (by omega)).mp q
      omega
    refine Or.inl ⟨3, by decide, by decide, c3, fun C0 => ?_⟩
    have r117 : dm_102_117 (nI t) pl 3 a (C 8 t e) 0 (C0, N) = (dm_104 (nI t) 3 a (C 8 t e) 0 (C0, N)).bind fun q2 => some (q2.1, q2.2) := rfl
    rw [n102, r117]
    simp (decide := true) only [dm_104, dm_103, qx_cl (j := t) (show t ≤ 1000000 by omega), qx_neg (n := t) (show t ≤ 100000000 by omega), Nat.not_le.mpr ht, or_self, ↓reduceIte, Option.bind_some, h25, if_neg hle]
theorem qo_5 (hX : qX b C N t d r) : qY b C N t 5 a (qg t pl 5 a) := by
  by_cases hk : d < 2
  · exact Or.inl ⟨2, by decide, by decide, qk_few (o := 5) (k := 2) (fun _ => rfl) (fun _ => rfl) (by omega) hX hk, qn_few (o := 5) (k := 2) (fun _ => rfl) (by omega) hX hk⟩
  obtain ⟨e, rfl⟩ : ∃ e, d = e + 2 := ⟨d - 2, by omega⟩
  have hX0 := hX
  obtain ⟨⟨hb, hR, h27, h8, ht, hs⟩, ⟨h4, hd, h5, hr⟩, h24, h25, h27r, hst, hrt⟩ := hX
  have c4 : (fj_u1 C 7 t 3 (C 7 t 3 + 1)) 7 t 4 = nI (e + 2) := by rw [qx_un (by omega)]; exact h4
  have e25 : (fj_u1 N 24 0 t (C 7 t 3 + 1)) 25 0 t = nI (e + 2) := by rw [qx_un (by omega)]; exact h25
  have c8 : ∀ j, (fj_u1 C 7 t 3 (C 7 t 3 + 1)) 8 t j = C 8 t j := fun j => qx_un (by omega)
  have h55 := qk_55 (o := 5) (k := 2) (fun _ => rfl) (by decide) (by decide) hX0 (by omega)
  have c45 : ∀ N0 : fj_N, dm_54 t 5 a (C, N0) = dm_54_45 t 5 a (C 8 t (e + 1)) (C, N0) := fun N0 => by
    have h := qk_54 (o := 5) (a := a) (fun _ => rfl) h55 (by decide) hX0 N0
    rw [qtop_s] at h
    exact h
  have n102 := qn_go2 (o := 5) (a := a) (pl := pl) (fun _ => rfl) (by decide) hX0
  by_cases hg : (e + 2) < 24
  · have c0 : ∀ N0 : fj_N, dm_54 t 5 a (C, N0) = some (0, (C, N0)) := fun N0 => by
      rw [c45]
      exact qk_45 (fun _ => rfl) (fun _ => rfl) (by decide) (qk_over0 (o := 5) (k := 2) (g := 3) (fun _ => rfl) (by decide) (fun _ => rfl) hX0 (by omega) (by omega) (by omega)) (Or.inl ⟨rfl, rfl⟩) N0
    have hle : nI (e + 2) + 1 ≤ 24 := by rw [nI_1]; exact (qx_le (a := (e + 2) + 1) (b := 24) (by omega) (by omega)).mpr (by omega)
    refine Or.inr (Or.inr ⟨C, _, _, _, c0, fun N0 => rfl, fun N0 => ?_, fun C0 => ?_, fun C0 => qn_spread0 (by (repeat rw [qx_un (by omega)]); exact h27) C0, qR_mono (qR_push (v := (C 8 t e)) (d0 := (e + 2)) c4 hg (qR_place (v := C 7 t 3 + 1) hR ht) ht) (Nat.le_succ b), by repeat rw [qx_un (by omega)]⟩)
    · have p1 := qk_push (M := (fj_u1 C 7 t 3 (C 7 t 3 + 1), N0)) (i := t) (d := (e + 2)) (x := (C 8 t e)) c4 hg
      have b1 := qk_belowk (M := (fj_u1 C 7 t 3 (C 7 t 3 + 1), N0)) (i := t) (d := e + 2) (k := 1) c4 hd (by omega)
      rw [show nI 1 = (1 : Int32) from rfl, show e + 2 - 1 - 1 = e by omega] at b1
      simp (decide := true) only [dm_64, dm_65, ↓reduceIte, Option.bind_some, b1, c8, p1]
    · have r117 : dm_102_117 (nI t) pl 5 a (C 8 t (e + 1)) (C 8 t e) (C0, N) = (dm_104 (nI t) 5 a (C 8 t (e + 1)) (C 8 t e) (C0, N)).bind fun q2 => some (q2.1, q2.2) := rfl
      rw [n102, r117]
      simp (decide := true) only [dm_104, dm_103, qx_cl (j := t) (show t ≤ 1000000 by omega), qx_neg (n := t) (show t ≤ 100000000 by omega), Nat.not_le.mpr ht, or_self, ↓reduceIte, Option.bind_some, h25, if_pos hle, h24, qn_gives0 (C0 := C0) (N1 := fj_u1 N 24 0 t (C 7 t 3 + 1)) (e := (e + 2)) (v := (C 8 t e)) ht hg e25]
  · have c3 : ∀ N0 : fj_N, dm_54 t 5 a (C, N0) = some (3, (C, N0)) := fun N0 => by
      rw [c45]
      exact qk_45 (fun _ => rfl) (fun _ => rfl) (by decide) (qk_over1 (o := 5) (k := 2) (g := 3) (fun _ => rfl) (by decide) (fun _ => rfl) hX0 (by omega) (by omega) (by omega)) (Or.inr ⟨rfl, rfl⟩) N0
    have hle : ¬ nI (e + 2) + 1 ≤ 24 := fun q => by
      rw [nI_1] at q
      have := (qx_le (a := (e + 2) + 1) (b := 24) (by omega) (by omega)).mp q
      omega
    refine Or.inl ⟨3, by decide, by decide, c3, fun C0 => ?_⟩
    have r117 : dm_102_117 (nI t) pl 5 a (C 8 t (e + 1)) (C 8 t e) (C0, N) = (dm_104 (nI t) 5 a (C 8 t (e + 1)) (C 8 t e) (C0, N)).bind fun q2 => some (q2.1, q2.2) := rfl
    rw [n102, r117]
    simp (decide := true) only [dm_104, dm_103, qx_cl (j := t) (show t ≤ 1000000 by omega), qx_neg (n := t) (show t ≤ 100000000 by omega), Nat.not_le.mpr ht, or_self, ↓reduceIte, Option.bind_some, h25, if_neg hle]
theorem qo_2 (hX : qX b C N t d r) : qY b C N t 2 a (qg t pl 2 a) := by
  by_cases hk : d < 1
  · exact Or.inl ⟨2, by decide, by decide, qk_few (o := 2) (k := 1) (fun _ => rfl) (fun _ => rfl) (by omega) hX hk, qn_few (o := 2) (k := 1) (fun _ => rfl) (by omega) hX hk⟩
  obtain ⟨e, rfl⟩ : ∃ e, d = e + 1 := ⟨d - 1, by omega⟩
  have hX0 := hX
  obtain ⟨⟨hb, hR, h27, h8, ht, hs⟩, ⟨h4, hd, h5, hr⟩, h24, h25, h27r, hst, hrt⟩ := hX
  have c4 : (fj_u1 C 7 t 3 (C 7 t 3 + 1)) 7 t 4 = nI (e + 1) := by rw [qx_un (by omega)]; exact h4
  have e25 : (fj_u1 N 24 0 t (C 7 t 3 + 1)) 25 0 t = nI (e + 1) := by rw [qx_un (by omega)]; exact h25
  have c8 : ∀ j, (fj_u1 C 7 t 3 (C 7 t 3 + 1)) 8 t j = C 8 t j := fun j => qx_un (by omega)
  have h55 := qk_55 (o := 2) (k := 1) (fun _ => rfl) (by decide) (by decide) hX0 (by omega)
  have c45 : ∀ N0 : fj_N, dm_54 t 2 a (C, N0) = dm_54_45 t 2 a (C 8 t e) (C, N0) := fun N0 => by
    have h := qk_54 (o := 2) (a := a) (fun _ => rfl) h55 (by decide) hX0 N0
    rw [qtop_s] at h
    exact h
  have n102 := qn_go1 (o := 2) (a := a) (pl := pl) (fun _ => rfl) (by decide) hX0
  have c0 : ∀ N0 : fj_N, dm_54 t 2 a (C, N0) = some (0, (C, N0)) := fun N0 => by
    rw [c45]
    exact qk_45 (fun _ => rfl) (fun _ => rfl) (by decide) (qk_over0 (o := 2) (k := 1) (g := 0) (fun _ => rfl) (by decide) (fun _ => rfl) hX0 (by omega) (by omega) (by omega)) (Or.inl ⟨rfl, rfl⟩) N0
  have hle : nI (e + 1) + 0 ≤ 24 := by rw [Int32.add_zero]; exact (qx_le (a := (e + 1)) (b := 24) (by omega) (by omega)).mpr (by omega)
  refine Or.inr (Or.inr ⟨C, _, _, _, c0, fun N0 => rfl, fun N0 => ?_, fun C0 => ?_, fun C0 => qn_spread0 (by (repeat rw [qx_un (by omega)]); exact h27) C0, qR_mono (qR_pop (d0 := e + 1) (e0 := e) c4 hd (by omega) (qR_place (v := C 7 t 3 + 1) hR ht) ht) (Nat.le_succ b), by repeat rw [qx_un (by omega)]⟩)
  · have p1 := qk_pop (M := (fj_u1 C 7 t 3 (C 7 t 3 + 1), N0)) (i := t) (d := e) c4 (by omega)
    simp (decide := true) only [dm_64, dm_65, ↓reduceIte, Option.bind_some, p1]
  · have r117 : dm_102_117 (nI t) pl 2 a (C 8 t e) 0 (C0, N) = (dm_104 (nI t) 2 a (C 8 t e) 0 (C0, N)).bind fun q2 => some (q2.1, q2.2) := rfl
    rw [n102, r117]
    simp (decide := true) only [dm_104, dm_103, qx_cl (j := t) (show t ≤ 1000000 by omega), qx_neg (n := t) (show t ≤ 100000000 by omega), Nat.not_le.mpr ht, or_self, ↓reduceIte, Option.bind_some, h25, if_pos hle, h24, e25, nI_pred]
theorem qo_4 (hX : qX b C N t d r) : qY b C N t 4 a (qg t pl 4 a) := by
  by_cases hk : d < 2
  · exact Or.inl ⟨2, by decide, by decide, qk_few (o := 4) (k := 2) (fun _ => rfl) (fun _ => rfl) (by omega) hX hk, qn_few (o := 4) (k := 2) (fun _ => rfl) (by omega) hX hk⟩
  obtain ⟨e, rfl⟩ : ∃ e, d = e + 2 := ⟨d - 2, by omega⟩
  have hX0 := hX
  obtain ⟨⟨hb, hR, h27, h8, ht, hs⟩, ⟨h4, hd, h5, hr⟩, h24, h25, h27r, hst, hrt⟩ := hX
  have c4 : (fj_u1 C 7 t 3 (C 7 t 3 + 1)) 7 t 4 = nI (e + 2) := by rw [qx_un (by omega)]; exact h4
  have e25 : (fj_u1 N 24 0 t (C 7 t 3 + 1)) 25 0 t = nI (e + 2) := by rw [qx_un (by omega)]; exact h25
  have c8 : ∀ j, (fj_u1 C 7 t 3 (C 7 t 3 + 1)) 8 t j = C 8 t j := fun j => qx_un (by omega)
  have h55 := qk_55 (o := 4) (k := 2) (fun _ => rfl) (by decide) (by decide) hX0 (by omega)
  have c45 : ∀ N0 : fj_N, dm_54 t 4 a (C, N0) = dm_54_45 t 4 a (C 8 t (e + 1)) (C, N0) := fun N0 => by
    have h := qk_54 (o := 4) (a := a) (fun _ => rfl) h55 (by decide) hX0 N0
    rw [qtop_s] at h
    exact h
  have n102 := qn_go2 (o := 4) (a := a) (pl := pl) (fun _ => rfl) (by decide) hX0
  have c0 : ∀ N0 : fj_N, dm_54 t 4 a (C, N0) = some (0, (C, N0)) := fun N0 => by
    rw [c45]
    exact qk_45 (fun _ => rfl) (fun _ => rfl) (by decide) (qk_over0 (o := 4) (k := 2) (g := 2) (fun _ => rfl) (by decide) (fun _ => rfl) hX0 (by omega) (by omega) (by omega)) (Or.inl ⟨rfl, rfl⟩) N0
  have hle : nI (e + 2) + 0 ≤ 24 := by rw [Int32.add_zero]; exact (qx_le (a := (e + 2)) (b := 24) (by omega) (by omega)).mpr (by omega)
  refine Or.inr (Or.inr ⟨C, _, _, _, c0, fun N0 => rfl, fun N0 => ?_, fun C0 => ?_, fun C0 => qn_spread0 (by (repeat rw [qx_un (by omega)]); exact h27) C0, qR_mono (qR_push (v := C 8 t e) (d0 := e + 1) (by rw [qx_un (by omega), qx_us]) (by omega) (qR_push (v := C 8 t (e + 1)) (d0 := e) (qx_us _ _ _ _ _) (by omega) (qR_pop (d0 := e + 2) (e0 := e) c4 hd (by omega) (qR_place (v := C 7 t 3 + 1) hR ht) ht) ht) ht) (Nat.le_succ b), by repeat rw [qx_un (by omega)]⟩)
  · have p1 := qk_pop (M := (fj_u1 C 7 t 3 (C 7 t 3 + 1), N0)) (i := t) (d := e + 1) c4 (by omega)
    have p2 := qk_pop (M := (fj_u1 (fj_u1 C 7 t 3 (C 7 t 3 + 1)) 7 t 4 (nI (e + 1)), N0)) (i := t) (d := e) (qx_us _ _ _ _ _) (by omega)
    have c8a : ∀ j, fj_u1 (fj_u1 C 7 t 3 (C 7 t 3 + 1)) 7 t 4 (nI (e + 1)) 8 t j = C 8 t j := fun j => by rw [qx_un (by omega), qx_un (by omega)]
    have c4b : (fj_u1 (fj_u1 (fj_u1 C 7 t 3 (C 7 t 3 + 1)) 7 t 4 (nI (e + 1))) 8 t e (C 8 t (e + 1))) 7 t 4 = nI (e + 1) := by rw [qx_un (by omega), qx_us]
    have p3 := qk_push (M := (fj_u1 (fj_u1 C 7 t 3 (C 7 t 3 + 1)) 7 t 4 (nI e), N0)) (i := t) (d := e) (x := C 8 t (e + 1)) (qx_us _ _ _ _ _) (by omega)
    have p4 := qk_push (M := (fj_u1 (fj_u1 (fj_u1 C 7 t 3 (C 7 t 3 + 1)) 7 t 4 (nI (e + 1))) 8 t e (C 8 t (e + 1)), N0)) (i := t) (d := e + 1) (x := C 8 t e) c4b (by omega)
    simp (decide := true) only [dm_64, dm_65, dm_66, ↓reduceIte, Option.bind_some, p1, c8, p2, c8a, qx_uu, p3, p4]
  · have r117 : dm_102_117 (nI t) pl 4 a (C 8 t (e + 1)) (C 8 t e) (C0, N) = (dm_104 (nI t) 4 a (C 8 t (e + 1)) (C 8 t e) (C0, N)).bind fun q2 => some (q2.1, q2.2) := rfl
    rw [n102, r117]
    simp (decide := true) only [dm_104, dm_103, qx_cl (j := t) (show t ≤ 1000000 by omega), qx_neg (n := t) (show t ≤ 100000000 by omega), Nat.not_le.mpr ht, or_self, ↓reduceIte, Option.bind_some, h25, if_pos hle, h24, show dm_101 (nI t) 2 (C 8 t (e + 1)) (C0, fj_u1 N 24 0 t (C 7 t 3 + 1)) = _ from qn_gives (C0 := C0) (N1 := fj_u1 N 24 0 t (C 7 t 3 + 1)) (e := e) (n := 2) (v := C 8 t (e + 1)) ht (by omega) e25, qn_gives0 (C0 := C0) (N1 := fj_u1 (fj_u1 (fj_u1 (fj_u1 N 24 0 t (C 7 t 3 + 1)) 25 0 t (nI e)) 26 0 (24 * t + e) (C 8 t (e + 1))) 25 0 t (nI (e + 1))) (e := e + 1) (v := C 8 t e) ht (by omega) (qx_us _ _ _ _ _)]
theorem qo_11 (hX : qX b C N t d r) : qY b C N t 11 a (qg t pl 11 a) := by
  by_cases hk : d < 1
  · exact Or.inl ⟨2, by decide, by decide, qk_few (o := 11) (k := 1) (fun _ => rfl) (fun _ => rfl) (by omega) hX hk, qn_few (o := 11) (k := 1) (fun _ => rfl) (by omega) hX hk⟩
  obtain ⟨e, rfl⟩ : ∃ e, d = e + 1 := ⟨d - 1, by omega⟩
  have hX0 := hX
  obtain ⟨⟨hb, hR, h27, h8, ht, hs⟩, ⟨h4, hd, h5, hr⟩, h24, h25, h27r, hst, hrt⟩ := hX
  have c4 : (fj_u1 C 7 t 3 (C 7 t 3 + 1)) 7 t 4 = nI (e + 1) := by rw [qx_un (by omega)]; exact h4
  have e25 : (fj_u1 N 24 0 t (C 7 t 3 + 1)) 25 0 t = nI (e + 1) := by rw [qx_un (by omega)]; exact h25
  have c8 : ∀ j, (fj_u1 C 7 t 3 (C 7 t 3 + 1)) 8 t j = C 8 t j := fun j => qx_un (by omega)
  have h55 := qk_55 (o := 11) (k := 1) (fun _ => rfl) (by decide) (by decide) hX0 (by omega)
  have c45 : ∀ N0 : fj_N, dm_54 t 11 a (C, N0) = dm_54_45 t 11 a (C 8 t e) (C, N0) := fun N0 => by
    have h := qk_54 (o := 11) (a := a) (fun _ => rfl) h55 (by decide) hX0 N0
    rw [qtop_s] at h
    exact h
  have n102 := qn_go1 (o := 11) (a := a) (pl := pl) (fun _ => rfl) (by decide) hX0
  have c0 : ∀ N0 : fj_N, dm_54 t 11 a (C, N0) = some (0, (C, N0)) := fun N0 => by
    rw [c45]
    exact qk_45 (fun _ => rfl) (fun _ => rfl) (by decide) (qk_over0 (o := 11) (k := 1) (g := 1) (fun _ => rfl) (by decide) (fun _ => rfl) hX0 (by omega) (by omega) (by omega)) (Or.inl ⟨rfl, rfl⟩) N0
  have hle : nI (e + 1) + 0 ≤ 24 := by rw [Int32.add_zero]; exact (qx_le (a := (e + 1)) (b := 24) (by omega) (by omega)).mpr (by omega)
  refine Or.inr (Or.inr ⟨C, _, _, _, c0, fun N0 => rfl, fun N0 => ?_, fun C0 => ?_, fun C0 => qn_spread0 (by (repeat rw [qx_un (by omega)]); exact h27) C0, qR_mono (qR_push (v := (-(C 8 t e))) (d0 := e) (qx_us _ _ _ _ _) (by omega) (qR_pop (d0 := e + 1) (e0 := e) c4 hd (by omega) (qR_place (v := C 7 t 3 + 1) hR ht) ht) ht) (Nat.le_succ b), by repeat rw [qx_un (by omega)]⟩)
  · have p1 := qk_pop (M := (fj_u1 C 7 t 3 (C 7 t 3 + 1), N0)) (i := t) (d := e) c4 (by omega)
    have p2 := qk_push (M := (fj_u1 (fj_u1 C 7 t 3 (C 7 t 3 + 1)) 7 t 4 (nI e), N0)) (i := t) (d := e) (x := (-(C 8 t e))) (qx_us _ _ _ _ _) (by omega)
    simp (decide := true) only [dm_64, dm_65, ↓reduceIte, Option.bind_some, p1, c8, p2]
  · have r117 : dm_102_117 (nI t) pl 11 a (C 8 t e) 0 (C0, N) = (dm_104 (nI t) 11 a (C 8 t e) 0 (C0, N)).bind fun q2 => some (q2.1, q2.2) := rfl
    rw [n102, r117]
    simp (decide := true) only [dm_104, dm_103, qx_cl (j := t) (show t ≤ 1000000 by omega), qx_neg (n := t) (show t ≤ 100000000 by omega), Nat.not_le.mpr ht, or_self, ↓reduceIte, Option.bind_some, h25, if_pos hle, h24, show dm_101 (nI t) 1 (-(C 8 t e)) (C0, fj_u1 N 24 0 t (C 7 t 3 + 1)) = _ from qn_gives (C0 := C0) (N1 := fj_u1 N 24 0 t (C 7 t 3 + 1)) (e := e) (n := 1) (v := (-(C 8 t e))) ht (by omega) e25]
theorem qo_19 (hX : qX b C N t d r) : qY b C N t 19 a (qg t pl 19 a) := by
  by_cases hk : d < 1
  · exact Or.inl ⟨2, by decide, by decide, qk_few (o := 19) (k := 1) (fun _ => rfl) (fun _ => rfl) (by omega) hX hk, qn_few (o := 19) (k := 1) (fun _ => rfl) (by omega) hX hk⟩
  obtain ⟨e, rfl⟩ : ∃ e, d = e + 1 := ⟨d - 1, by omega⟩
  have hX0 := hX
  obtain ⟨⟨hb, hR, h27, h8, ht, hs⟩, ⟨h4, hd, h5, hr⟩, h24, h25, h27r, hst, hrt⟩ := hX
  have c4 : (fj_u1 C 7 t 3 (C 7 t 3 + 1)) 7 t 4 = nI (e + 1) := by rw [qx_un (by omega)]; exact h4
  have e25 : (fj_u1 N 24 0 t (C 7 t 3 + 1)) 25 0 t = nI (e + 1) := by rw [qx_un (by omega)]; exact h25
  have c8 : ∀ j, (fj_u1 C 7 t 3 (C 7 t 3 + 1)) 8 t j = C 8 t j := fun j => qx_un (by omega)
  have h55 := qk_55 (o := 19) (k := 1) (fun _ => rfl) (by decide) (by decide) hX0 (by omega)
  have c45 : ∀ N0 : fj_N, dm_54 t 19 a (C, N0) = dm_54_45 t 19 a (C 8 t e) (C, N0) := fun N0 => by
    have h := qk_54 (o := 19) (a := a) (fun _ => rfl) h55 (by decide) hX0 N0
    rw [qtop_s] at h
    exact h
  have n102 := qn_go1 (o := 19) (a := a) (pl := pl) (fun _ => rfl) (by decide) hX0
  have c0 : ∀ N0 : fj_N, dm_54 t 19 a (C, N0) = some (0, (C, N0)) := fun N0 => by
    rw [c45]
    exact qk_45 (fun _ => rfl) (fun _ => rfl) (by decide) (qk_over0 (o := 19) (k := 1) (g := 1) (fun _ => rfl) (by decide) (fun _ => rfl) hX0 (by omega) (by omega) (by omega)) (Or.inl ⟨rfl, rfl⟩) N0
  have hle : nI (e + 1) + 0 ≤ 24 := by rw [Int32.add_zero]; exact (qx_le (a := (e + 1)) (b := 24) (by omega) (by omega)).mpr (by omega)
  refine Or.inr (Or.inr ⟨C, _, _, _, c0, fun N0 => rfl, fun N0 => ?_, fun C0 => ?_, fun C0 => qn_spread0 (by (repeat rw [qx_un (by omega)]); exact h27) C0, qR_mono (qR_push (v := (if C 8 t e = 0 then 1 else 0)) (d0 := e) (qx_us _ _ _ _ _) (by omega) (qR_pop (d0 := e + 1) (e0 := e) c4 hd (by omega) (qR_place (v := C 7 t 3 + 1) hR ht) ht) ht) (Nat.le_succ b), by repeat rw [qx_un (by omega)]⟩)
  · have p1 := qk_pop (M := (fj_u1 C 7 t 3 (C 7 t 3 + 1), N0)) (i := t) (d := e) c4 (by omega)
    have p2 := qk_push (M := (fj_u1 (fj_u1 C 7 t 3 (C 7 t 3 + 1)) 7 t 4 (nI e), N0)) (i := t) (d := e) (x := (if C 8 t e = 0 then 1 else 0)) (qx_us _ _ _ _ _) (by omega)
    by_cases hz : C 8 t e = 0
    · rw [if_pos hz] at p2
      simp (decide := true) only [dm_64, dm_65, dm_65_171, ↓reduceIte, Option.bind_some, p1, c8, hz, p2]
    · rw [if_neg hz] at p2
      simp (decide := true) only [dm_64, dm_65, dm_65_171, ↓reduceIte, Option.bind_some, p1, c8, if_neg hz, p2]
  · have r117 : dm_102_117 (nI t) pl 19 a (C 8 t e) 0 (C0, N) = (dm_104 (nI t) 19 a (C 8 t e) 0 (C0, N)).bind fun q2 => some (q2.1, q2.2) := rfl
    rw [n102, r117]
    by_cases hz : C 8 t e = 0
    · simp (decide := true) only [dm_104, dm_103, dm_104_216, qx_cl (j := t) (show t ≤ 1000000 by omega), qx_neg (n := t) (show t ≤ 100000000 by omega), Nat.not_le.mpr ht, or_self, ↓reduceIte, Option.bind_some, h25, if_pos hle, h24, hz, show dm_101 (nI t) 1 1 (C0, fj_u1 N 24 0 t (C 7 t 3 + 1)) = _ from qn_gives (C0 := C0) (N1 := fj_u1 N 24 0 t (C 7 t 3 + 1)) (e := e) (n := 1) (v := 1) ht (by omega) e25]
    · simp (decide := true) only [dm_104, dm_103, dm_104_216, qx_cl (j := t) (show t ≤ 1000000 by omega), qx_neg (n := t) (show t ≤ 100000000 by omega), Nat.not_le.mpr ht, or_self, ↓reduceIte, Option.bind_some, h25, if_pos hle, h24, if_neg hz, show dm_101 (nI t) 1 0 (C0, fj_u1 N 24 0 t (C 7 t 3 + 1)) = _ from qn_gives (C0 := C0) (N1 := fj_u1 N 24 0 t (C 7 t 3 + 1)) (e := e) (n := 1) (v := 0) ht (by omega) e25]
end QO1
