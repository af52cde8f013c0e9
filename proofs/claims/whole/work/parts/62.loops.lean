/-! TURNTASKS: its constructor -/
abbrev st_X (h0 : Nat) (qs : Nat → Nat) (cI cT cC : ClassId) (f g : Nat → Option Nat) : va_W := [(h0, .inr (2, [.ref (qs 1), .ref (qs 2), .ref (qs 3), .ref (qs 4), .ref (qs 5), .ref (qs 6), .int 8, .int 2, .int 0, .int 0, .int 0, .int 0, .int 0, .int 0])), (qs 1, .inl (cI, 512, .inl (fun _ => 0))), (qs 2, .inl (cI, 64, .inl (fun _ => 0))), (qs 3, .inl (cI, 300, .inl (fun _ => 0))), (qs 4, .inl (cT, 12, .inr (.inr (.inr (.inr f))))), (qs 5, .inl (cC, 6, .inr (.inr (.inr (.inr g))))), (qs 6, .inl (cI, 12, .inl (fun _ => 0)))]
abbrev st_gT (cI : ClassId) (t : Nat × Nat × Nat) : va_W := [(t.1, .inr (1, [.ref t.2.1, .ref t.2.2, .int 0, .int 0, .int 0, .int 0, .int (-1), .int 0, .int 0, .int 0, .int 0, .int 0])), (t.2.1, .inl (cI, 24, .inl (fun _ => 0))), (t.2.2, .inl (cI, 12, .inl (fun _ => 0)))]
abbrev st_gC (cI : ClassId) (t : Nat × Nat) : va_W := [(t.1, .inr (0, [.ref t.2, .int 0, .int 4])), (t.2, .inl (cI, 8, .inl (fun _ => 0)))]
theorem st_up {α : Type} {T : List α} {k : α → Nat} {f : Nat → Option Nat} {x : α} {i : Nat} (hT : T.length = i) (hf : ∀ j, j < i → f j = (T[j]?).map k) : ∀ j, j < i + 1 → va_up f i (some (k x)) j = ((T ++ [x])[j]?).map k := by
  intro j hj
  by_cases h : j = i
  · subst h
    rw [List.getElem?_append_right (by omega), hT, Nat.sub_self]
    simp [va_up]
  · rw [List.getElem?_append_left (by omega), ← hf j (by omega)]
    simp [va_up, h]
theorem st_fm {α : Type} (T : List α) (x : α) (g : α → va_W) : T.flatMap g ++ g x = (T ++ [x]).flatMap g := by
  rw [List.flatMap_append]
  simp
set_option maxHeartbeats 1000000 in
set_option maxRecDepth 100000 in
theorem st_tasks {p : Program} {l : Launch} {e : Env} {R : Room} {s : State} {m : MethodId} {args : Array Value} {below : List Frame} {meth : Method} {c : Code} {Q : State → Prop} {D : va_G} {A : Nat → Prop} {h0 : Nat} {qs : Nat → Nat} {cI cT cC : ClassId} {g : Nat → Option Nat}
    (hx : p.tables.exec = Jvm.exec) (hb : c.code = cX5_init) (hml : c.maxLocals = 2) (hown : s.vm.findClass RX5 = some m.cls) (hts : ∀ w ∈ fj_tb, w.before args s = true) (hK : va_K D vwCl [(cI, .int), (cT, .object RX4), (cC, .object RX0)] s) (hA : ∀ q : Nat, s.heap.size ≤ q → A q) (hN : va_Nw (.methodLinkNest RX5 41 yX4_init "TurnTasks") s) (hR : 54 ≤ R.cells ∧ 1548 ≤ R.slots ∧ 2 ≤ R.frames ∧ 32 ≤ R.locals)
    (K : ∀ (T : List (Nat × Nat × Nat)) (f : Nat → Option Nat) (H : Heap) (locs : List Loc) (ls : Array Slot), T.length = 12 → (∀ j, j < 12 → f j = (T[j]?).map (fun t => t.1)) → va_P D vwCl (st_X h0 qs cI cT cC f g ++ T.flatMap (st_gT cI)) H → va_D A (st_X h0 qs cI cT cC f g ++ T.flatMap (st_gT cI)) → va_S A s.heap H locs → lv_has ls 2 [(1, .int (nI 12)), (0, .ref h0)] → W p l e R s m args below meth c H locs (6 + 3 * 12) (906 + 48 * 12) Q (F0 m 94 ls [])) :
    ∀ (n i : Nat) (T : List (Nat × Nat × Nat)) (f : Nat → Option Nat) (H : Heap) (locs : List Loc) (ls : Array Slot), i + n = 12 → T.length = i → (∀ j, j < i → f j = (T[j]?).map (fun t => t.1)) → va_P D vwCl (st_X h0 qs cI cT cC f g ++ T.flatMap (st_gT cI)) H → va_D A (st_X h0 qs cI cT cC f g ++ T.flatMap (st_gT cI)) → va_S A s.heap H locs → lv_has ls 2 [(1, .int (nI i)), (0, .ref h0)] → W p l e R s m args below meth c H locs (6 + 3 * i) (906 + 48 * i) Q (F0 m 69 ls []) := by
  intro n
  induction n with
  | zero =>
    intro i T f H locs ls hi hT hf hP hD hS hl
    have hi : i = 12 := by omega
    subst hi
    refine lv_iload_n hx hb dX5_init_69 rfl (lv_at hl 0 rfl) ?_
    refine lv_bipush (v := 12) hx hb dX5_init_70 (by decide) ?_
    refine lv_icmp_ge (tgt := 94) hx hb dX5_init_72 (by decide) (fun _ => ?_) (fun hc => absurd (by decide) hc)
    exact K T f H locs ls hT hf hP hD hS hl
  | succ n ih =>
    intro i T f H locs ls hi hT hf hP hD hS hl
    have hi12 : i < 12 := by omega
    have hlt : ¬ (12 : Int32) ≤ nI i := fun q => by
      have := (qx_le (a := 12) (b := i) (by omega) (by omega)).mp q
      omega
    refine lv_iload_n hx hb dX5_init_69 rfl (lv_at hl 0 rfl) ?_
    refine lv_bipush (v := 12) hx hb dX5_init_70 (by decide) ?_
    refine lv_icmp_ge (tgt := 94) hx hb dX5_init_72 (by decide) (fun hc => absurd hc hlt) (fun _ => ?_)
    refine lv_aload_n hx hb dX5_init_75 rfl (lv_at hl 1 rfl) ?_
    refine va_get (D := D) (ci := 2) (v := .ref (qs 4)) (C := RX5) (T := TX5) (N := 14) hx hb hts fj_lay5 hown hK hP 0 rfl rfl 3 (by decide) (hts (.fieldLink RX5 21 "TurnTasks" "tasks" "[LTurnTasks$Task;") sw_fl_X5_21) (fun _ h9 => h9) rfl dX5_init_76 ?_
    refine lv_iload_n hx hb dX5_init_79 rfl (lv_at hl 0 rfl) ?_
    have hc1 : 6 + 3 * i + 1 ≤ R.cells := by omega
    have hs1 : 906 + 48 * i + 12 ≤ R.slots := by omega
    refine va_new (ci := 1) (fs := [.null, .null, .int 0, .int 0, .int 0, .int 0, .int 0, .int 0, .int 0, .int 0, .int 0, .int 0]) (C := RX4) (T := TX4) (N := 12) hx hb hts fj_lay4 tyX4 tyX4_ok hown (hts (.classLink RX5 19 RX4) sw_cl_19) (hts (.instantiable RX4 12) sw_it_X4) (hts (.initialized RX4) sw_in_X4) hK hP hD hS hA rfl (fun j hj => match j, hj with
      | 0, _ => rfl
      | 1, _ => rfl
      | 2, _ => rfl
      | 3, _ => rfl
      | 4, _ => rfl
      | 5, _ => rfl
      | 6, _ => rfl
      | 7, _ => rfl
      | 8, _ => rfl
      | 9, _ => rfl
      | 10, _ => rfl
      | 11, _ => rfl
      | k + 12, h => absurd h (by omega)) hc1 hs1 dX5_init_80 (fun q H1 hP hD hS => ?_)
    have hP := va_P.swap (a := st_X h0 qs cI cT cC f g) (b := T.flatMap (st_gT cI)) (c := [(q, .inr (1, [.null, .null, .int 0, .int 0, .int 0, .int 0, .int 0, .int 0, .int 0, .int 0, .int 0, .int 0]))]) hP
    have hD := va_D.swap (a := st_X h0 qs cI cT cC f g) (b := T.flatMap (st_gT cI)) (c := [(q, .inr (1, [.null, .null, .int 0, .int 0, .int 0, .int 0, .int 0, .int 0, .int 0, .int 0, .int 0, .int 0]))]) hD
    refine lv_dup hx hb dX5_init_83 rfl ?_
    have hPc := hP.sub (ws' := [(q, .inr (1, [.null, .null, .int 0, .int 0, .int 0, .int 0, .int 0, .int 0, .int 0, .int 0, .int 0, .int 0]))]) [7] rfl
    have hDc := hD.sub (ws' := [(q, .inr (1, [.null, .null, .int 0, .int 0, .int 0, .int 0, .int 0, .int 0, .int 0, .int 0, .int 0, .int 0]))]) [7] (by decide) rfl
    have hKc := hK.sub (tys' := [(cI, .int)]) [0] rfl
    have hFc := va_free (wc := [(q, .inr (1, [.null, .null, .int 0, .int 0, .int 0, .int 0, .int 0, .int 0, .int 0, .int 0, .int 0, .int 0]))]) hD hS hA [7] rfl
    have hc2 : 6 + 3 * i + 1 + 2 ≤ R.cells := by omega
    have hs2 : 906 + 48 * i + 12 + 36 ≤ R.slots := by omega
    have hfr : 1 + 1 ≤ R.frames ∧ 8 + (1 + 11) + 12 ≤ R.locals := ⟨hR.2.2.1, hR.2.2.2⟩
    refine va_callv (va_runIN (As := []) (rest := [.ref q, .int (nI i), .ref (qs 4)]) ⟨hx, hb, hml, hown, hts⟩ (c_X4_init l D cI q H1.size) ⟨va_cnB 0 hts (st_good sw_cd_X4) rfl rfl rfl hN (hts (.initialized RX4) sw_in_X4) (by decide +kernel) hfr, rfl, hts (.instanceMethod yX4_init) sw_im_X4⟩ ⟨fun a U g mk q => by obtain ⟨q0, q1, qP, qK, qD⟩ := q; exact ⟨q0, q1, qP, va_K.moved (u := U) (U := U.calling g mk a) (Vm.Alike.refl U.vm) qK, qD⟩, fun U hU hW => ⟨rfl, by rw [hU], by rw [hU]; exact hPc, va_K.moved hW.alike hKc, hDc.weaken (fun _ _ _ _ => trivial)⟩⟩ rfl rfl hl.1 rfl (lv_room (Nat.le_of_ble_eq_true rfl)) dX5_init_84 ⟨hc2, hs2⟩) hS (fun q _ h => hFc q h) hFc (fun u t H2 locs2 ht hvm hw hB hz1 hk1 hS => ?_)
    obtain ⟨hP1, hK1, hD1⟩ := hB
    rw [ht] at hP1
    obtain ⟨hP, hD⟩ := va_joinQ (X := st_X h0 qs cI cT cC f g ++ [(q, .inr (1, [.null, .null, .int 0, .int 0, .int 0, .int 0, .int 0, .int 0, .int 0, .int 0, .int 0, .int 0]))]) (cx := [(q, .inr (1, [.null, .null, .int 0, .int 0, .int 0, .int 0, .int 0, .int 0, .int 0, .int 0, .int 0, .int 0]))]) (wr := st_X h0 qs cI cT cC f g) (w1 := st_gT cI (q, u.1, u.2)) (pl := T.flatMap (st_gT cI)) hP hD [7] [0, 1, 2, 3, 4, 5, 6] rfl rfl (by decide) (by decide) hk1 hFc hP1 hD1
    have hin : vp_in (nI i) 12 := vp_in_nI hi12 (by omega)
    refine va_astq (r := (RX4, TX4, 12)) hx hb hK hP hD hS 4 1 7 1 rfl rfl rfl rfl hin dX5_init_87 (fun H3 locs3 hP hD hS => ?_)
    rw [nI_clamp (by omega)] at hP hD
    have hP : va_P D vwCl ((st_X h0 qs cI cT cC (va_up f i (some q)) g ++ st_gT cI (q, u.1, u.2)) ++ T.flatMap (st_gT cI)) H3 := hP
    have hD : va_D A ((st_X h0 qs cI cT cC (va_up f i (some q)) g ++ st_gT cI (q, u.1, u.2)) ++ T.flatMap (st_gT cI)) := hD
    have hP := va_P.swap (a := st_X h0 qs cI cT cC (va_up f i (some q)) g) (b := st_gT cI (q, u.1, u.2)) (c := T.flatMap (st_gT cI)) hP
    have hD := va_D.swap (a := st_X h0 qs cI cT cC (va_up f i (some q)) g) (b := st_gT cI (q, u.1, u.2)) (c := T.flatMap (st_gT cI)) hD
    rw [List.append_assoc, st_fm] at hP hD
    refine W.widen (k := 6 + 3 * (i + 1)) (n := 906 + 48 * (i + 1)) (by omega) (by omega) ?_
    refine lv_iinc (v := nI (i + 1)) (lv' := [(1, .int (nI (i + 1))), (0, .ref h0)]) hx hb dX5_init_88 hl (k := 0) rfl (nI_1 i) (by decide) rfl (fun ls hl => ?_)
    refine lv_goto (tgt := 69) hx hb dX5_init_91 (by decide) ?_
    exact ih (i + 1) (T ++ [(q, u.1, u.2)]) _ H3 locs3 ls (by omega) (by rw [List.length_append, hT]; rfl) (st_up (k := fun t => t.1) (x := (q, u.1, u.2)) hT hf) hP hD hS hl
set_option maxHeartbeats 1000000 in
set_option maxRecDepth 100000 in
theorem st_chans {p : Program} {l : Launch} {e : Env} {R : Room} {s : State} {m : MethodId} {args : Array Value} {below : List Frame} {meth : Method} {c : Code} {Q : State → Prop} {D : va_G} {A : Nat → Prop} {h0 : Nat} {qs : Nat → Nat} {cI cT cC : ClassId} {g : Nat → Option Nat} {P0 : va_W}
    (hx : p.tables.exec = Jvm.exec) (hb : c.code = cX5_init) (hml : c.maxLocals = 2) (hown : s.vm.findClass RX5 = some m.cls) (hts : ∀ w ∈ fj_tb, w.before args s = true) (hK : va_K D vwCl [(cI, .int), (cT, .object RX4), (cC, .object RX0)] s) (hA : ∀ q : Nat, s.heap.size ≤ q → A q) (hN : va_Nw (.methodLinkNest RX5 42 yX0_init "TurnTasks") s) (hR : 54 ≤ R.cells ∧ 1548 ≤ R.slots ∧ 2 ≤ R.frames ∧ 32 ≤ R.locals)
    (K : ∀ (T : List (Nat × Nat)) (f : Nat → Option Nat) (H : Heap) (locs : List Loc) (ls : Array Slot), T.length = 6 → (∀ j, j < 6 → f j = (T[j]?).map (fun t => t.1)) → va_P D vwCl (st_X h0 qs cI cT cC g f ++ (P0 ++ T.flatMap (st_gC cI))) H → va_D A (st_X h0 qs cI cT cC g f ++ (P0 ++ T.flatMap (st_gC cI))) → va_S A s.heap H locs → lv_has ls 2 [(1, .int (nI 6)), (0, .ref h0)] → W p l e R s m args below meth c H locs (42 + 2 * 6) (1482 + 11 * 6) Q (F0 m 121 ls [])) :
    ∀ (n i : Nat) (T : List (Nat × Nat)) (f : Nat → Option Nat) (H : Heap) (locs : List Loc) (ls : Array Slot), i + n = 6 → T.length = i → (∀ j, j < i → f j = (T[j]?).map (fun t => t.1)) → va_P D vwCl (st_X h0 qs cI cT cC g f ++ (P0 ++ T.flatMap (st_gC cI))) H → va_D A (st_X h0 qs cI cT cC g f ++ (P0 ++ T.flatMap (st_gC cI))) → va_S A s.heap H locs → lv_has ls 2 [(1, .int (nI i)), (0, .ref h0)] → W p l e R s m args below meth c H locs (42 + 2 * i) (1482 + 11 * i) Q (F0 m 96 ls []) := by
  intro n
  induction n with
  | zero =>
    intro i T f H locs ls hi hT hf hP hD hS hl
    have hi : i = 6 := by omega
    subst hi
    refine lv_iload_n hx hb dX5_init_96 rfl (lv_at hl 0 rfl) ?_
    refine lv_bipush (v := 6) hx hb dX5_init_97 (by decide) ?_
    refine lv_icmp_ge (tgt := 121) hx hb dX5_init_99 (by decide) (fun _ => ?_) (fun hc => absurd (by decide) hc)
    exact K T f H locs ls hT hf hP hD hS hl
  | succ n ih =>
    intro i T f H locs ls hi hT hf hP hD hS hl
    have hi12 : i < 6 := by omega
    have hlt : ¬ (6 : Int32) ≤ nI i := fun q => by
      have := (qx_le (a := 6) (b := i) (by omega) (by omega)).mp q
      omega
    refine lv_iload_n hx hb dX5_init_96 rfl (lv_at hl 0 rfl) ?_
    refine lv_bipush (v := 6) hx hb dX5_init_97 (by decide) ?_
    refine lv_icmp_ge (tgt := 121) hx hb dX5_init_99 (by decide) (fun hc => absurd hc hlt) (fun _ => ?_)
    refine lv_aload_n hx hb dX5_init_102 rfl (lv_at hl 1 rfl) ?_
    refine va_get (D := D) (ci := 2) (v := .ref (qs 5)) (C := RX5) (T := TX5) (N := 14) hx hb hts fj_lay5 hown hK hP 0 rfl rfl 4 (by decide) (hts (.fieldLink RX5 27 "TurnTasks" "channels" "[LTurnTasks$Channel;") sw_fl_X5_27) (fun _ h9 => h9) rfl dX5_init_103 ?_
    refine lv_iload_n hx hb dX5_init_106 rfl (lv_at hl 0 rfl) ?_
    have hc1 : 42 + 2 * i + 1 ≤ R.cells := by omega
    have hs1 : 1482 + 11 * i + 3 ≤ R.slots := by omega
    refine va_new (ci := 0) (fs := [.null, .int 0, .int 0]) (C := RX0) (T := TX0) (N := 3) hx hb hts fj_lay0 tyX0 tyX0_ok hown (hts (.classLink RX5 25 RX0) sw_cl_25) (hts (.instantiable RX0 3) sw_it_X0) (hts (.initialized RX0) sw_in_X0) hK hP hD hS hA rfl (fun j hj => match j, hj with
      | 0, _ => rfl
      | 1, _ => rfl
      | 2, _ => rfl
      | k + 3, h => absurd h (by omega)) hc1 hs1 dX5_init_107 (fun q H1 hP hD hS => ?_)
    have hP := va_P.swap (a := st_X h0 qs cI cT cC g f) (b := (P0 ++ T.flatMap (st_gC cI))) (c := [(q, .inr (0, [.null, .int 0, .int 0]))]) hP
    have hD := va_D.swap (a := st_X h0 qs cI cT cC g f) (b := (P0 ++ T.flatMap (st_gC cI))) (c := [(q, .inr (0, [.null, .int 0, .int 0]))]) hD
    refine lv_dup hx hb dX5_init_110 rfl ?_
    have hPc := hP.sub (ws' := [(q, .inr (0, [.null, .int 0, .int 0]))]) [7] rfl
    have hDc := hD.sub (ws' := [(q, .inr (0, [.null, .int 0, .int 0]))]) [7] (by decide) rfl
    have hKc := hK.sub (tys' := [(cI, .int)]) [0] rfl
    have hFc := va_free (wc := [(q, .inr (0, [.null, .int 0, .int 0]))]) hD hS hA [7] rfl
    have hc2 : 42 + 2 * i + 1 + 1 ≤ R.cells := by omega
    have hs2 : 1482 + 11 * i + 3 + 8 ≤ R.slots := by omega
    have hfr : 1 + 1 ≤ R.frames ∧ 8 + (1 + 11) + 12 ≤ R.locals := ⟨hR.2.2.1, hR.2.2.2⟩
    refine va_callv (va_runIN (As := []) (rest := [.ref q, .int (nI i), .ref (qs 5)]) ⟨hx, hb, hml, hown, hts⟩ (c_X0_init l D cI q H1.size) ⟨va_cnB 0 hts (st_good sw_cd_X0) rfl rfl rfl hN (hts (.initialized RX0) sw_in_X0) (by decide +kernel) hfr, rfl, hts (.instanceMethod yX0_init) sw_im_X0⟩ ⟨fun a U g mk q => by obtain ⟨q0, q1, qP, qK, qD⟩ := q; exact ⟨q0, q1, qP, va_K.moved (u := U) (U := U.calling g mk a) (Vm.Alike.refl U.vm) qK, qD⟩, fun U hU hW => ⟨rfl, by rw [hU], by rw [hU]; exact hPc, va_K.moved hW.alike hKc, hDc.weaken (fun _ _ _ _ => trivial)⟩⟩ rfl rfl hl.1 rfl (lv_room (Nat.le_of_ble_eq_true rfl)) dX5_init_111 ⟨hc2, hs2⟩) hS (fun q _ h => hFc q h) hFc (fun u t H2 locs2 ht hvm hw hB hz1 hk1 hS => ?_)
    obtain ⟨hP1, hK1, hD1⟩ := hB
    rw [ht] at hP1
    obtain ⟨hP, hD⟩ := va_joinQ (X := st_X h0 qs cI cT cC g f ++ [(q, .inr (0, [.null, .int 0, .int 0]))]) (cx := [(q, .inr (0, [.null, .int 0, .int 0]))]) (wr := st_X h0 qs cI cT cC g f) (w1 := st_gC cI (q, u)) (pl := (P0 ++ T.flatMap (st_gC cI))) hP hD [7] [0, 1, 2, 3, 4, 5, 6] rfl rfl (by decide) (by decide) hk1 hFc hP1 hD1
    have hin : vp_in (nI i) 6 := vp_in_nI hi12 (by omega)
    refine va_astq (r := (RX0, TX0, 3)) hx hb hK hP hD hS 5 2 7 0 rfl rfl rfl rfl hin dX5_init_114 (fun H3 locs3 hP hD hS => ?_)
    rw [nI_clamp (by omega)] at hP hD
    have hP : va_P D vwCl ((st_X h0 qs cI cT cC g (va_up f i (some q)) ++ st_gC cI (q, u)) ++ (P0 ++ T.flatMap (st_gC cI))) H3 := hP
    have hD : va_D A ((st_X h0 qs cI cT cC g (va_up f i (some q)) ++ st_gC cI (q, u)) ++ (P0 ++ T.flatMap (st_gC cI))) := hD
    have hP := va_P.swap (a := st_X h0 qs cI cT cC g (va_up f i (some q))) (b := st_gC cI (q, u)) (c := (P0 ++ T.flatMap (st_gC cI))) hP
    have hD := va_D.swap (a := st_X h0 qs cI cT cC g (va_up f i (some q))) (b := st_gC cI (q, u)) (c := (P0 ++ T.flatMap (st_gC cI))) hD
    rw [List.append_assoc, List.append_assoc, st_fm] at hP hD
    refine W.widen (k := 42 + 2 * (i + 1)) (n := 1482 + 11 * (i + 1)) (by omega) (by omega) ?_
    refine lv_iinc (v := nI (i + 1)) (lv' := [(1, .int (nI (i + 1))), (0, .ref h0)]) hx hb dX5_init_115 hl (k := 0) rfl (nI_1 i) (by decide) rfl (fun ls hl => ?_)
    refine lv_goto (tgt := 96) hx hb dX5_init_118 (by decide) ?_
    exact ih (i + 1) (T ++ [(q, u)]) _ H3 locs3 ls (by omega) (by rw [List.length_append, hT]; rfl) (st_up (k := fun t => t.1) (x := (q, u)) hT hf) hP hD hS hl
