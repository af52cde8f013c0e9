/-! OPS OF TWO INTS -/
section QO2
variable {b : Nat} {C N : fj_N} {t d r : Nat} {a pl : Int32}
/-- what the class does with two ints -/
theorem qk_two {C1 N0 : fj_N} {e : Nat} {o w : Int32} (c4 : C1 7 t 4 = nI (e + 2)) (hd : e + 2 ≤ 24) (hv : ∀ M : fj_M, dm_67 o (C1 8 t e) (C1 8 t (e + 1)) M = some (w, M)) :
    ((((dm_12 t (C1, N0)).bind fun q15 => ((dm_12 t q15.2).bind fun q16 => ((dm_67 o q16.1 q15.1 q16.2).bind fun q17 => ((dm_11 t q17.1 q17.2).bind fun q18 => some q18)))) : Option fj_M).bind fun q17 => some q17) = some (fj_u1 (fj_u1 (fj_u1 C1 7 t 4 (nI e)) 7 t 4 (nI (e + 1))) 8 t e w, N0) := by
  have p1 := qk_pop (M := (C1, N0)) (i := t) (d := e + 1) c4 (by omega)
  have p2 := qk_pop (M := (fj_u1 C1 7 t 4 (nI (e + 1)), N0)) (i := t) (d := e) (qx_us _ _ _ _ _) (by omega)
  have c8a : ∀ j, fj_u1 C1 7 t 4 (nI (e + 1)) 8 t j = C1 8 t j := fun j => qx_un (by omega)
  have p3 := qk_push (M := (fj_u1 C1 7 t 4 (nI e), N0)) (i := t) (d := e) (x := w) (qx_us _ _ _ _ _) (by omega)
  simp only [p1, Option.bind_some, p2, c8a, qx_uu, hv, p3]
theorem qo_two {o : Int32} {v : Int32 → Int32 → Int32} (h2 : ∀ M : fj_M, dm_2 o M = some (1, M)) (ho : ∀ M : fj_M, dm_4 o M = some (nI 2, M)) (ho9 : ∀ M : fj_M, dm_99 o M = some (nI 2, M)) (hn : ¬ o = 22 ∧ ¬ o = 23 ∧ ¬ o = 45) (hn2 : ¬ o = 40 ∧ ¬ o = 41 ∧ ¬ o = 43)
    (h61 : ∀ M : fj_M, dm_61 o a M = some (nI 1, M)) (h56 : ∀ (x : Int32) (M : fj_M), dm_56 o a x M = some (0, M)) (h57 : ∀ M : fj_M, dm_57 o a M = some (0, M)) (h53 : ∀ M : fj_M, dm_53 t o a M = some (0, M))
    (h64 : ∀ M : fj_M, dm_64 t o a M = (((dm_12 t M).bind fun q15 => ((dm_12 t q15.2).bind fun q16 => ((dm_67 o q16.1 q15.1 q16.2).bind fun q17 => ((dm_11 t q17.1 q17.2).bind fun q18 => some q18)))) : Option fj_M).bind fun q17 => some q17)
    (hv : ∀ (x y : Int32) (M : fj_M), (x = 0 → ¬ (o = 9 ∨ o = 10)) → dm_67 o y x M = some (v y x, M)) (hv' : ∀ (x y : Int32) (M : fj_M), (x = 0 → ¬ (o = 9 ∨ o = 10)) → dm_105 o x y M = some (v y x, M))
    (hr0 : ∀ (x y : Int32) (M : fj_M), x = 0 → (o = 9 ∨ o = 10) → dm_102_117 (nI t) pl o a x y M = some (4, M))
    (hr : ∀ (x y : Int32) (M : fj_M), (x = 0 → ¬ (o = 9 ∨ o = 10)) → dm_102_117 (nI t) pl o a x y M = (dm_104 (nI t) o a x y M).bind fun q2 => some (q2.1, q2.2))
    (h104 : ∀ (x y : Int32) (M : fj_M), dm_104 (nI t) o a x y M = if nI t < 0 ∨ 12 ≤ (nI t).toNatClampNeg then none else (if ((M.2 25 0 (nI t).toNatClampNeg) + 0) ≤ 24 then (if nI t < 0 ∨ 12 ≤ (nI t).toNatClampNeg then none else (if nI t < 0 ∨ 12 ≤ (nI t).toNatClampNeg then none else ((dm_105 o x y (M.1, fj_u1 M.2 24 0 (nI t).toNatClampNeg ((M.2 24 0 (nI t).toNatClampNeg) + 1))).bind fun q20 => ((dm_101 (nI t) 2 q20.1 q20.2).bind fun q21 => some (0, q21))))) else some (3, M)))
    (hX : qX b C N t d r) : qY b C N t o a (qg t pl o a) := by
  by_cases hk : d < 2
  · exact Or.inl ⟨2, by decide, by decide, qk_few (k := 2) h2 ho (by omega) hX hk, qn_few (k := 2) ho9 (by omega) hX hk⟩
  obtain ⟨e, rfl⟩ : ∃ e, d = e + 2 := ⟨d - 2, by omega⟩
  have hX0 := hX
  obtain ⟨⟨hb, hR, h27, h8, ht, hs⟩, ⟨h4, hd, h5, hr5⟩, h24, h25, h27r, hst, hrt⟩ := hX
  have h55 := qk_55 (k := 2) ho hn.2.1 hn.2.2 hX0 (by omega)
  have n102 := qn_go2 (a := a) (pl := pl) ho9 hn.2.1 hX0
  have hq : qtop C t (e + 2) = C 8 t (e + 1) := qtop_s C t (e + 1)
  by_cases hz : C 8 t (e + 1) = 0 ∧ (o = 9 ∨ o = 10)
  · refine Or.inl ⟨4, by decide, by decide, fun N0 => ?_, fun C0 => ?_⟩
    · rw [qk_54d h2 h55 hz.2 hX0 N0, hq]
      simp only [dm_54_38, if_pos hz.1]
    · rw [n102, hr0 _ _ _ hz.1 hz.2]
  have hz' : C 8 t (e + 1) = 0 → ¬ (o = 9 ∨ o = 10) := fun q1 q2 => hz ⟨q1, q2⟩
  have c4 : (fj_u1 C 7 t 3 (C 7 t 3 + 1)) 7 t 4 = nI (e + 2) := by rw [qx_un (by omega)]; exact h4
  have e25 : (fj_u1 N 24 0 t (C 7 t 3 + 1)) 25 0 t = nI (e + 2) := by rw [qx_un (by omega)]; exact h25
  have c8 : ∀ j, (fj_u1 C 7 t 3 (C 7 t 3 + 1)) 8 t j = C 8 t j := fun j => qx_un (by omega)
  have c45 : ∀ N0 : fj_N, dm_54 t o a (C, N0) = dm_54_45 t o a (C 8 t (e + 1)) (C, N0) := fun N0 => by
    by_cases h9 : o = 9 ∨ o = 10
    · rw [qk_54d h2 h55 h9 hX0 N0, hq]
      simp only [dm_54_38, if_neg (fun q => hz' q h9)]
    · rw [qk_54 h2 h55 ⟨fun q => h9 (Or.inl q), fun q => h9 (Or.inr q)⟩ hX0 N0, hq]
  have c0 : ∀ N0 : fj_N, dm_54 t o a (C, N0) = some (0, (C, N0)) := fun N0 => by
    rw [c45]
    exact qk_45 (fun _ => h56 _ _) (fun _ => h57 _) hn2 (qk_over0 (k := 2) (g := 1) ho hn.1 (fun _ => h61 _) hX0 (by omega) (by omega) (by omega)) (Or.inl ⟨rfl, rfl⟩) N0
  have hle : nI (e + 2) + 0 ≤ 24 := by rw [Int32.add_zero]; exact (qx_le (a := e + 2) (b := 24) (by omega) (by omega)).mpr (by omega)
  refine Or.inr (Or.inr ⟨C, _, _, _, c0, fun N0 => h53 _, fun N0 => ?_, fun C0 => ?_, fun C0 => qn_spread0 (by (repeat rw [qx_un (by omega)]); exact h27) C0, qR_mono (qR_push (v := v (C 8 t e) (C 8 t (e + 1))) (d0 := e) (qx_us _ _ _ _ _) (by omega) (qR_pop (d0 := e + 2) (e0 := e) c4 hd (by omega) (qR_place (v := C 7 t 3 + 1) hR ht) ht) ht) (Nat.le_succ b), by repeat rw [qx_un (by omega)]⟩)
  · rw [h64]
    exact qk_two c4 hd (fun M => by rw [c8, c8]; exact hv _ _ M hz')
  · have g1 : dm_101 (nI t) 2 (v (C 8 t e) (C 8 t (e + 1))) (C0, fj_u1 N 24 0 t (C 7 t 3 + 1)) = _ := qn_gives (C0 := C0) (N1 := fj_u1 N 24 0 t (C 7 t 3 + 1)) (e := e) (n := 2) (v := v (C 8 t e) (C 8 t (e + 1))) ht (by omega) e25
    rw [n102, hr _ _ _ hz', h104]
    simp only [qx_cl (j := t) (show t ≤ 1000000 by omega), qx_neg (n := t) (show t ≤ 100000000 by omega), Nat.not_le.mpr ht, or_self, ↓reduceIte, h25, if_pos hle, h24, hv' _ _ _ hz', Option.bind_some, g1]
theorem qo_6 (hX : qX b C N t d r) : qY b C N t 6 a (qg t pl 6 a) := qo_two (o := 6) (v := fun y x => y + x) (fun _ => rfl) (fun _ => rfl) (fun _ => rfl) (by decide) (by decide) (fun _ => rfl) (fun _ _ => rfl) (fun _ => rfl) (fun _ => rfl) (fun _ => rfl) (fun _ _ _ _ => rfl) (fun _ _ _ _ => rfl) (fun _ _ _ _ q => absurd q (by decide)) (fun _ _ _ _ => rfl) (fun _ _ _ => rfl) hX
theorem qo_7 (hX : qX b C N t d r) : qY b C N t 7 a (qg t pl 7 a) := qo_two (o := 7) (v := fun y x => y - x) (fun _ => rfl) (fun _ => rfl) (fun _ => rfl) (by decide) (by decide) (fun _ => rfl) (fun _ _ => rfl) (fun _ => rfl) (fun _ => rfl) (fun _ => rfl) (fun _ _ _ _ => rfl) (fun _ _ _ _ => rfl) (fun _ _ _ _ q => absurd q (by decide)) (fun _ _ _ _ => rfl) (fun _ _ _ => rfl) hX
theorem qo_8 (hX : qX b C N t d r) : qY b C N t 8 a (qg t pl 8 a) := qo_two (o := 8) (v := fun y x => y * x) (fun _ => rfl) (fun _ => rfl) (fun _ => rfl) (by decide) (by decide) (fun _ => rfl) (fun _ _ => rfl) (fun _ => rfl) (fun _ => rfl) (fun _ => rfl) (fun _ _ _ _ => rfl) (fun _ _ _ _ => rfl) (fun _ _ _ _ q => absurd q (by decide)) (fun _ _ _ _ => rfl) (fun _ _ _ => rfl) hX
theorem qo_12 (hX : qX b C N t d r) : qY b C N t 12 a (qg t pl 12 a) := qo_two (o := 12) (v := fun y x => y &&& x) (fun _ => rfl) (fun _ => rfl) (fun _ => rfl) (by decide) (by decide) (fun _ => rfl) (fun _ _ => rfl) (fun _ => rfl) (fun _ => rfl) (fun _ => rfl) (fun _ _ _ _ => rfl) (fun _ _ _ _ => rfl) (fun _ _ _ _ q => absurd q (by decide)) (fun _ _ _ _ => rfl) (fun _ _ _ => rfl) hX
theorem qo_13 (hX : qX b C N t d r) : qY b C N t 13 a (qg t pl 13 a) := qo_two (o := 13) (v := fun y x => y ||| x) (fun _ => rfl) (fun _ => rfl) (fun _ => rfl) (by decide) (by decide) (fun _ => rfl) (fun _ _ => rfl) (fun _ => rfl) (fun _ => rfl) (fun _ => rfl) (fun _ _ _ _ => rfl) (fun _ _ _ _ => rfl) (fun _ _ _ _ q => absurd q (by decide)) (fun _ _ _ _ => rfl) (fun _ _ _ => rfl) hX
theorem qo_14 (hX : qX b C N t d r) : qY b C N t 14 a (qg t pl 14 a) := qo_two (o := 14) (v := fun y x => y ^^^ x) (fun _ => rfl) (fun _ => rfl) (fun _ => rfl) (by decide) (by decide) (fun _ => rfl) (fun _ _ => rfl) (fun _ => rfl) (fun _ => rfl) (fun _ => rfl) (fun _ _ _ _ => rfl) (fun _ _ _ _ => rfl) (fun _ _ _ _ q => absurd q (by decide)) (fun _ _ _ _ => rfl) (fun _ _ _ => rfl) hX
theorem qo_15 (hX : qX b C N t d r) : qY b C N t 15 a (qg t pl 15 a) := qo_two (o := 15) (v := fun y x => y <<< ((x &&& 31) &&& 31)) (fun _ => rfl) (fun _ => rfl) (fun _ => rfl) (by decide) (by decide) (fun _ => rfl) (fun _ _ => rfl) (fun _ => rfl) (fun _ => rfl) (fun _ => rfl) (fun _ _ _ _ => rfl) (fun _ _ _ _ => rfl) (fun _ _ _ _ q => absurd q (by decide)) (fun _ _ _ _ => rfl) (fun _ _ _ => rfl) hX
theorem qo_16 (hX : qX b C N t d r) : qY b C N t 16 a (qg t pl 16 a) := qo_two (o := 16) (v := fun y x => y >>> ((x &&& 31) &&& 31)) (fun _ => rfl) (fun _ => rfl) (fun _ => rfl) (by decide) (by decide) (fun _ => rfl) (fun _ _ => rfl) (fun _ => rfl) (fun _ => rfl) (fun _ => rfl) (fun _ _ _ _ => rfl) (fun _ _ _ _ => rfl) (fun _ _ _ _ q => absurd q (by decide)) (fun _ _ _ _ => rfl) (fun _ _ _ => rfl) hX
theorem qo_17 (hX : qX b C N t d r) : qY b C N t 17 a (qg t pl 17 a) := qo_two (o := 17) (v := fun y x => if x ≤ y then 0 else 1) (fun _ => rfl) (fun _ => rfl) (fun _ => rfl) (by decide) (by decide) (fun _ => rfl) (fun _ _ => rfl) (fun _ => rfl) (fun _ => rfl) (fun _ => rfl) (fun x y _ _ => by by_cases q : x ≤ y <;> simp (decide := true) only [dm_67, dm_105, ↓reduceIte, q]) (fun x y _ _ => by by_cases q : x ≤ y <;> simp (decide := true) only [dm_67, dm_105, ↓reduceIte, q]) (fun _ _ _ _ q => absurd q (by decide)) (fun _ _ _ _ => rfl) (fun _ _ _ => rfl) hX
theorem qo_18 (hX : qX b C N t d r) : qY b C N t 18 a (qg t pl 18 a) := qo_two (o := 18) (v := fun y x => if y = x then 1 else 0) (fun _ => rfl) (fun _ => rfl) (fun _ => rfl) (by decide) (by decide) (fun _ => rfl) (fun _ _ => rfl) (fun _ => rfl) (fun _ => rfl) (fun _ => rfl) (fun x y _ _ => by by_cases q : y = x <;> simp (decide := true) only [dm_67, dm_105, ↓reduceIte, q]) (fun x y _ _ => by by_cases q : y = x <;> simp (decide := true) only [dm_67, dm_105, ↓reduceIte, q]) (fun _ _ _ _ q => absurd q (by decide)) (fun _ _ _ _ => rfl) (fun _ _ _ => rfl) hX
theorem qx_div1 (y : Int32) : y / (-1) = -y := by
  rw [← Int32.toInt_inj, Int32.toInt_div, show (-1 : Int32).toInt = -1 from by decide, Int.tdiv_neg, Int.tdiv_one, Int32.toInt_neg]
theorem qx_rem1 (y : Int32) : y - y / (-1) * (-1) = 0 := by
  rw [qx_div1, Int32.mul_neg, Int32.mul_one, Int32.neg_neg, Int32.sub_self]
theorem qo_9 (hX : qX b C N t d r) : qY b C N t 9 a (qg t pl 9 a) := by
  refine qo_two (o := 9) (v := fun y x => y / x) (fun _ => rfl) (fun _ => rfl) (fun _ => rfl) (by decide) (by decide) (fun _ => rfl) (fun _ _ => rfl) (fun _ => rfl) (fun _ => rfl) (fun _ => rfl) (fun x y M q => by simp (decide := true) only [dm_67, ↓reduceIte, if_neg (show ¬ x = 0 from fun z => q z (by decide))]) (fun x y M q => by
    by_cases z : x = -1
    · subst z
      simp (decide := true) only [dm_105, ↓reduceIte, qx_div1]
    · simp (decide := true) only [dm_105, ↓reduceIte, if_neg z, if_neg (show ¬ x = 0 from fun z => q z (by decide))]) (fun x y M q _ => by subst q; rfl) (fun x y M q => by
    have z : ¬ x = 0 := fun z => q z (by decide)
    have e1 : dm_102_117 (nI t) pl 9 a x y M = if x = 0 then some (4, M) else dm_102_164 (nI t) pl 9 a x y M := rfl
    rw [e1, if_neg z]
    rfl) (fun _ _ _ => rfl) hX
theorem qo_10 (hX : qX b C N t d r) : qY b C N t 10 a (qg t pl 10 a) := by
  refine qo_two (o := 10) (v := fun y x => y - y / x * x) (fun _ => rfl) (fun _ => rfl) (fun _ => rfl) (by decide) (by decide) (fun _ => rfl) (fun _ _ => rfl) (fun _ => rfl) (fun _ => rfl) (fun _ => rfl) (fun x y M q => by simp (decide := true) only [dm_67, ↓reduceIte, if_neg (show ¬ x = 0 from fun z => q z (by decide))]) (fun x y M q => by
    by_cases z : x = -1
    · subst z
      simp (decide := true) only [dm_105, ↓reduceIte, qx_rem1]
    · simp (decide := true) only [dm_105, ↓reduceIte, if_neg z, if_neg (show ¬ x = 0 from fun z => q z (by decide))]) (fun x y M q _ => by subst q; rfl) (fun x y M q => by
    have z : ¬ x = 0 := fun z => q z (by decide)
    have e1 : dm_102_117 (nI t) pl 10 a x y M = if x = 0 then some (4, M) else dm_102_164 (nI t) pl 10 a x y M := rfl
    rw [e1, if_neg z]
    rfl) (fun _ _ _ => rfl) hX
end QO2
