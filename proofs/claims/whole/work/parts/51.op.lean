/-! ONE OP, WHATEVER IT IS -/
section QOP
variable {b : Nat} {C N : fj_N} {t d r : Nat} {a pl : Int32}
theorem qo_all (hX : qX b C N t d r) : ∀ o : Nat, o ≤ 45 → qY b C N t (nI o) a (qg t pl (nI o) a)
  | 0, _ => qo_0 hX
  | 1, _ => qo_1 hX
  | 2, _ => qo_2 hX
  | 3, _ => qo_3 hX
  | 4, _ => qo_4 hX
  | 5, _ => qo_5 hX
  | 6, _ => qo_6 hX
  | 7, _ => qo_7 hX
  | 8, _ => qo_8 hX
  | 9, _ => qo_9 hX
  | 10, _ => qo_10 hX
  | 11, _ => qo_11 hX
  | 12, _ => qo_12 hX
  | 13, _ => qo_13 hX
  | 14, _ => qo_14 hX
  | 15, _ => qo_15 hX
  | 16, _ => qo_16 hX
  | 17, _ => qo_17 hX
  | 18, _ => qo_18 hX
  | 19, _ => qo_19 hX
  | 20, _ => qo_20 hX
  | 21, _ => qo_21 hX
  | 22, _ => qo_22 hX
  | 23, _ => qo_23 hX
  | 24, _ => qo_24 hX
  | 25, _ => qo_25 hX
  | 26, _ => qo_26 hX
  | 27, _ => qo_27 hX
  | 28, _ => qo_28 hX
  | 29, _ => qo_29 hX
  | 30, _ => qo_30 hX
  | 31, _ => qo_31 hX
  | 32, _ => qo_32 hX
  | 33, _ => qo_33 hX
  | 34, _ => qo_34 hX
  | 35, _ => qo_35 hX
  | 36, _ => qo_36 hX
  | 37, _ => qo_37 hX
  | 38, _ => qo_38 hX
  | 39, _ => qo_39 hX
  | 40, _ => qo_40 (fun C N u h1 h2 h3 h4 => qx_kill1 h1 h2 h3 h4) hX
  | 41, _ => qo_41 hX
  | 42, _ => qo_42 hX
  | 43, _ => qo_43 hX
  | 44, _ => qo_44 hX
  | 45, _ => qo_45 hX
  | n + 46, h => absurd h (by omega)
theorem qx_X (hb : b ≤ 10000000) (hR : qR (b, false) C N) (h27 : N 20 0 27 = 0) (h8 : C 0 0 8 = nI t) (ht : t < 12) (hs : C 7 t 2 = 1) : ∃ d r : Nat, qX b C N t d r := by
  obtain ⟨⟨a1, a2, a3, a4, a5, a6, a7, a8⟩, b0, ⟨d, d1, d2, d3⟩, ⟨r, r1, r2, r3⟩, e, g, w⟩ := hR.2.2.1 t ht
  exact ⟨d, r, ⟨hb, hR, h27, h8, ht, hs⟩, ⟨d2, d1, r2, r1⟩, a2, a3.trans d2, a4.trans r2, d3, r3⟩
/-- the class's op by its parts -/
theorem qk_52_o {N0 : fj_N} (h8 : C 0 0 8 = nI t) (ht : t < 12) (h : C 7 t 3 < 0 ∨ (¬ C 7 t 3 < 0 ∧ nI 512 ≤ C 7 t 3)) : dm_52 (C, N0) = (dm_62 (nI t) 1 (C, N0)).bind fun q4 => some q4 := by
  simp only [dm_52, h8, qx_cl (j := t) (show t ≤ 1000000 by omega), qx_neg (n := t) (show t ≤ 100000000 by omega), Nat.not_le.mpr ht, or_self, ↓reduceIte, qg35_o h, Option.bind_some]
theorem qk_52_i {N0 : fj_N} {p : Nat} {o : Int32} (h8 : C 0 0 8 = nI t) (ht : t < 12) (hp : p < 512) (h3 : C 7 t 3 = nI p) (ho : C 1 0 p &&& 255 = o) (ha : C 1 0 p >>> ((8 : Int32) &&& 31) = a) : dm_52 (C, N0) = (dm_54 t o a (C, N0)).bind fun q7 => (if q7.1 = 0 then ((dm_53 t o a q7.2).bind fun q9 => (if q9.1 = 0 then ((dm_64 t o a ((fj_u1 q9.2.1 7 t 3 (q9.2.1 7 t 3 + 1)), q9.2.2)).bind fun q11 => some q11) else some q9.2)) else ((dm_62 (q7.2.1 0 0 8) q7.1 q7.2).bind fun q12 => some q12)) := by
  simp only [dm_52, h8, qx_cl (j := t) (show t ≤ 1000000 by omega), qx_neg (n := t) (show t ≤ 100000000 by omega), Nat.not_le.mpr ht, or_self, ↓reduceIte, h3, qg35_i hp, Option.bind_some, qz1, qx_cl (j := p) (show p ≤ 1000000 by omega), qx_neg (n := p) (show p ≤ 100000000 by omega), Nat.not_le.mpr hp, or_self, ho, ha]
theorem qn_102_o {C0 : fj_N} (ht : t < 12) (h : N 24 0 t < 0 ∨ (¬ N 24 0 t < 0 ∧ nI 512 ≤ N 24 0 t)) : dm_102 (nI t) (C0, N) = some (1, (C0, N)) := by
  simp only [dm_102, qx_cl (j := t) (show t ≤ 1000000 by omega), qx_neg (n := t) (show t ≤ 100000000 by omega), Nat.not_le.mpr ht, or_self, ↓reduceIte, qg78_0_511_o h, Option.bind_some]
theorem qn_102_b {C0 : fj_N} {p : Nat} {o : Int32} (ht : t < 12) (hp : p < 512) (h3 : N 24 0 t = nI p) (ho : N 21 0 p &&& 255 = o) (h45 : ¬ o ≤ 45) : dm_102 (nI t) (C0, N) = some (1, (C0, N)) := by
  simp only [dm_102, qx_cl (j := t) (show t ≤ 1000000 by omega), qx_neg (n := t) (show t ≤ 100000000 by omega), Nat.not_le.mpr ht, or_self, ↓reduceIte, h3, qg78_0_511_i (j := p) (by omega) (by omega), Option.bind_some, qz1, qx_cl (j := p) (show p ≤ 1000000 by omega), qx_neg (n := p) (show p ≤ 100000000 by omega), Nat.not_le.mpr hp, or_self, ho, if_neg h45]
theorem qn_102_i {C0 : fj_N} {p : Nat} {o : Int32} (ht : t < 12) (hp : p < 512) (h3 : N 24 0 t = nI p) (ho : N 21 0 p &&& 255 = o) (ha : N 21 0 p >>> ((8 : Int32) &&& 31) = a) (h45 : o ≤ 45) : dm_102 (nI t) (C0, N) = qg t (nI p) o a (C0, N) := by
  simp only [dm_102, qx_cl (j := t) (show t ≤ 1000000 by omega), qx_neg (n := t) (show t ≤ 100000000 by omega), Nat.not_le.mpr ht, or_self, ↓reduceIte, h3, qg78_0_511_i (j := p) (by omega) (by omega), Option.bind_some, qz1, qx_cl (j := p) (show p ≤ 1000000 by omega), qx_neg (n := p) (show p ≤ 100000000 by omega), Nat.not_le.mpr hp, or_self, ho, ha, if_pos h45, qg]
/-- a fault of the running task, both sides -/
theorem qx_fault {f : Int32} (hR : qR (b, false) C N) (h27 : N 20 0 27 = 0) (h8 : C 0 0 8 = nI t) (ht : t < 12) (hs : C 7 t 2 = 1) (hf0 : ¬ f ≤ 0) (hf9 : ¬ f = 9) (hc : ∀ N0 : fj_N, dm_52 (C, N0) = (dm_62 (nI t) f (C, N0)).bind fun q => some q) (hn : ∀ C0 : fj_N, dm_102 (nI t) (C0, N) = some (f, (C0, N))) : ∃ (C' N1 N2 N' : fj_N) (f : Int32), (∀ N0 : fj_N, dm_52 (C, N0) = some (C', N0)) ∧ (∀ C0 : fj_N, dm_102 (nI t) (C0, N) = some (f, (C0, N1))) ∧ ((f ≤ 0 ∧ N2 = N1) ∨ (¬ f ≤ 0 ∧ ∀ C0 : fj_N, dm_94 (N1 20 0 20) f 1 (C0, N1) = some (C0, N2))) ∧ (∀ C0 : fj_N, dm_95 (C0, N2) = some (C0, N')) ∧ qR (b + 1, false) C' N' ∧ C' 0 0 7 = C 0 0 7 := by
  have hl : qh_live C t := by
    unfold qh_live
    rw [hs]
    decide
  obtain ⟨C', N2, N', k1, k2, k3, k4, k5⟩ := qx_bring hR h27 ht hl hf9
  have e20 : N 20 0 20 = nI t := hR.1.1.2.2.1.trans h8
  refine ⟨C', N, N2, N', f, fun N0 => by rw [hc, k1, Option.bind_some], hn, Or.inr ⟨hf0, fun C0 => by rw [e20]; exact k2 C0⟩, k3, qR_mono k4 (Nat.le_succ b), k5⟩
theorem q_OP : qOP := by
  intro b C N t hb hR h27 h8 ht hs
  have h24 : N 24 0 t = C 7 t 3 := (hR.2.2.1 t ht).1.2.1
  rcases qx_ix (C 7 t 3) (n := 512) (by decide) with h | h | ⟨p, hp, h3⟩
  · exact qx_fault (f := 1) hR h27 h8 ht hs (by decide) (by decide) (fun N0 => qk_52_o h8 ht (Or.inl h)) (fun C0 => qn_102_o ht (by rw [h24]; exact Or.inl h))
  · exact qx_fault (f := 1) hR h27 h8 ht hs (by decide) (by decide) (fun N0 => qk_52_o h8 ht (Or.inr h)) (fun C0 => qn_102_o ht (by rw [h24]; exact Or.inr h))
  obtain ⟨o, ho8, ho⟩ := pk_andE (C 1 0 p) (m := 255) 8 (by decide)
  have h21 : N 21 0 p = C 1 0 p := hR.2.1.1 p hp
  have hon : N 21 0 p &&& 255 = nI o := by rw [h21]; exact ho
  have h3n : N 24 0 t = nI p := h24.trans h3
  have e20 : N 20 0 20 = nI t := hR.1.1.2.2.1.trans h8
  generalize ha : C 1 0 p >>> ((8 : Int32) &&& 31) = a
  have han : N 21 0 p >>> ((8 : Int32) &&& 31) = a := by rw [h21]; exact ha
  have h52 := fun N0 : fj_N => qk_52_i (N0 := N0) h8 ht hp h3 ho ha
  by_cases ho45 : o ≤ 45
  · have h45 : nI o ≤ 45 := (qx_le (a := o) (b := 45) (by omega) (by omega)).mpr ho45
    have h102 := fun C0 : fj_N => qn_102_i (C0 := C0) ht hp h3n hon han h45
    obtain ⟨d, r, hX⟩ := qx_X hb hR h27 h8 ht hs
    rcases qo_all (a := a) (pl := nI p) hX o ho45 with ⟨f, f1, f2, f3, f4⟩ | ⟨C', N', f1, f2, f3, f4, f5, f6⟩ | ⟨Cw, C', N1, N', f1, f2, f3, f4, f5, f6, f7⟩
    · refine qx_fault (f := f) hR h27 h8 ht hs f1 f2 (fun N0 => ?_) (fun C0 => by rw [h102]; exact f4 C0)
      have hf0 : ¬ f = 0 := fun q => f1 (by rw [q]; decide)
      rw [h52, f3]
      simp only [Option.bind_some, if_neg hf0, h8]
    · refine ⟨C', N', N', N', 0, fun N0 => ?_, fun C0 => by rw [h102]; exact f3 C0, Or.inl ⟨by decide, rfl⟩, fun C0 => qn_spread0 f5 C0, f4, f6⟩
      rw [h52, f1]
      simp only [Option.bind_some, ↓reduceIte, f2, qz1]
    · refine ⟨C', N1, N1, N', 0, fun N0 => ?_, fun C0 => by rw [h102]; exact f4 C0, Or.inl ⟨by decide, rfl⟩, f5, f6, f7⟩
      rw [h52, f1]
      simp only [Option.bind_some, ↓reduceIte, f2, f3]
  · have h45 : ¬ nI o ≤ 45 := fun q => ho45 ((qx_le (a := o) (b := 45) (by omega) (by omega)).mp q)
    have hlt : (45 : Int32) < nI o := qx_not_le h45
    refine qx_fault (f := 1) hR h27 h8 ht hs (by decide) (by decide) (fun N0 => ?_) (fun C0 => qn_102_b ht hp h3n hon h45)
    rw [h52]
    simp only [dm_54, dm_2, if_neg (qx_neg (n := o) (show o ≤ 100000000 by omega)), if_pos hlt, Option.bind_some, ↓reduceIte, qz1, h8]
end QOP
