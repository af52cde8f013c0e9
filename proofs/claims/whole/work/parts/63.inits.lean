/-! THE CONSTRUCTORS OF TURNTASKS AND OF THE REFERENCE -/
def st_f (x : Int32) : Nat → Nat → Int32
  | 0 => fun _ => 0
  | k + 1 => upd (st_f x k) k x
abbrev st_S : Type := (Nat → Nat) × (List (Nat × Nat × Nat) × List (Nat × Nat)) × ((Nat → Option Nat) × (Nat → Option Nat)) × (ClassId × ClassId × ClassId)
abbrev st_W (h0 : Nat) (u : st_S) : va_W := st_X h0 u.1 u.2.2.2.1 u.2.2.2.2.1 u.2.2.2.2.2 u.2.2.1.1 u.2.2.1.2 ++ (u.2.1.1.flatMap (st_gT u.2.2.2.1) ++ u.2.1.2.flatMap (st_gC u.2.2.2.1))
def st_post (u : st_S) : Prop := u.2.1.1.length = 12 ∧ u.2.1.2.length = 6 ∧ (∀ j, j < 12 → u.2.2.1.1 j = (u.2.1.1[j]?).map (fun t => t.1)) ∧ ∀ j, j < 6 → u.2.2.1.2 j = (u.2.1.2[j]?).map (fun t => t.1)
abbrev st_0 (h0 : Nat) : va_W := [(h0, .inr (2, [.null, .null, .null, .null, .null, .null, .int 0, .int 0, .int 0, .int 0, .int 0, .int 0, .int 0, .int 0]))]
set_option maxHeartbeats 4000000 in
set_option maxRecDepth 100000 in
theorem c_X5_init (l : Launch) (D : va_G) (h0 : Nat) (sz : Nat) : Met l yX5_init (sw_w yX5_init cX5_init 2) ({ frames := 2, cells := 54, slots := 1548, locals := 32 }) (va_Pc [.ref h0] (fun U => U.heap.size = sz ∧ va_P D vwCl (st_0 h0) U.heap ∧ va_K D vwCl [] U ∧ va_D (fun _ => True) (st_0 h0) ∧ va_AO RX4 U ∧ va_AO RX0 U ∧ va_Nw (.methodLinkNest RX5 41 yX4_init "TurnTasks") U ∧ va_Nw (.methodLinkNest RX5 42 yX0_init "TurnTasks") U)) (va_Qv st_post (fun u t => va_P D vwCl (st_W h0 u) t.heap ∧ va_K D vwCl [(u.2.2.2.1, .int), (u.2.2.2.2.1, .object RX4), (u.2.2.2.2.2, .object RX0)] t ∧ va_D (va_A (st_0 h0) sz) (st_W h0 u)) (va_A (st_0 h0) sz)) 54 1548 (va_A (st_0 h0) sz) := by
  refine Met.ofW (cc := cX5_init) (maxL := 2) (ret := none) (by decide) rfl ?_
  intro p e s m args below meth c s₁ B hml hv
  obtain ⟨rfl, hsz, hP, hK, hD0, hO1, hO2, hN1, hN2⟩ := hv
  have hx := B.exec
  have hb := B.bytes
  have hr := B.returns
  have hts0 := atoms_spec (ws := sw_w yX5_init cX5_init 2) B.pre
  have hts : ∀ w ∈ fj_tb, w.before _ s = true := fun w h => hts0 w (List.mem_cons_of_mem _ h)
  have hown : s.vm.findClass RX5 = some m.cls := findClass_of_methodNamed B.named
  have hlocks := B.notSynchronized
  have hin : meth.name = "<init>" := (name_of_methodNamed B.named B.method).1
  subst hsz
  have hD := hD0.self (sz := s.heap.size)
  generalize hAe : va_A [(h0, .inr (2, [.null, .null, .null, .null, .null, .null, .int 0, .int 0, .int 0, .int 0, .int 0, .int 0, .int 0, .int 0]))] s.heap.size = A at hD ⊢
  have hA : ∀ q : Nat, s.heap.size ≤ q → A q := fun q h => by rw [← hAe]; exact Or.inr h
  have hS : va_S A s.heap s.heap [] := va_S.rf
  have hP : va_P D vwCl [(h0, .inr (2, [.null, .null, .null, .null, .null, .null, .int 0, .int 0, .int 0, .int 0, .int 0, .int 0, .int 0, .int 0]))] s.heap := hP
  have hl := lv_entry ([.ref h0]) (n := 2) (Nat.le_of_ble_eq_true rfl)
  rw [lg_entry_eq]
  generalize (lg_sl ([.ref h0]) ++ List.replicate (2 - (lg_sl ([.ref h0])).length) Slot.unset).toArray = ls at hl ⊢
  have hl : lv_has ls 2 [(0, .ref h0)] := hl
  refine lv_aload_n hx hb dX5_init_0 rfl (lv_at hl 0 rfl) ?_
  refine W.objInit hx hb hown (hts (.methodLink RX5 1 objectInit) sw_ml_X5) (hts (.instanceMethod objectInit) sw_oi) (hts _ sw_oc) rfl (by rw [hml]; exact hl.1) rfl dX5_init_1 (Nat.le_of_ble_eq_true rfl) (Nat.le_of_ble_eq_true rfl) ?_
  refine W.eq (g2 := F0 m 4 ls []) rfl ?_
  refine lv_aload_n hx hb dX5_init_4 rfl (lv_at hl 0 rfl) ?_
  refine lv_sipush (v := 512) hx hb dX5_init_5 (by decide) ?_
  have hcc : 0 + 1 ≤ 54 := by decide
  have hss : 0 + 512 ≤ 1548 := by decide
  refine va_newa (atype := .int) (a0 := (512, .inl (fun _ => 0))) (N' := 512) (ty := .int) hx hb (hts (.arrayClass .int) sw_ar) rfl hK hP hD hS hA (fun _ => rfl) (by decide) (by decide) (show 512 * 4 ≤ 536870912 by omega) hcc hss dX5_init_8 (fun q1 cA H hK hP hD hS => ?_)
  obtain ⟨cI, hcI⟩ : ∃ z : ClassId, z = cA := ⟨_, rfl⟩
  subst hcI
  have hP : va_P D vwCl [(h0, .inr (2, [.null, .null, .null, .null, .null, .null, .int 0, .int 0, .int 0, .int 0, .int 0, .int 0, .int 0, .int 0])), (q1, .inl (cI, 512, .inl (fun _ => 0)))] H := hP
  have hD : va_D A [(h0, .inr (2, [.null, .null, .null, .null, .null, .null, .int 0, .int 0, .int 0, .int 0, .int 0, .int 0, .int 0, .int 0])), (q1, .inl (cI, 512, .inl (fun _ => 0)))] := hD
  refine W.widen (k := 1) (n := 512) (by decide) (by decide) ?_
  refine va_putF (D := D) (ci := 2) (v := .ref q1) (ty := .array .int) (C := RX5) (T := TX5) (N := 14) hx hb hts fj_lay5 tyX5 tyX5_ok nmX5 hown hK hP hD hS 0 rfl rfl 0 (by decide) (hts (.fieldLink RX5 9 "TurnTasks" "code" "[I") sw_fl_X5_9) (fun _ h9 => h9) rfl hin rfl (by decide +kernel) rfl rfl (Nat.le_of_ble_eq_true rfl) dX5_init_10 (fun H locs hP hD hS => ?_)
  have hP : va_P D vwCl [(h0, .inr (2, [.ref q1, .null, .null, .null, .null, .null, .int 0, .int 0, .int 0, .int 0, .int 0, .int 0, .int 0, .int 0])), (q1, .inl (cI, 512, .inl (fun _ => 0)))] H := hP
  have hD : va_D A [(h0, .inr (2, [.ref q1, .null, .null, .null, .null, .null, .int 0, .int 0, .int 0, .int 0, .int 0, .int 0, .int 0, .int 0])), (q1, .inl (cI, 512, .inl (fun _ => 0)))] := hD
  refine lv_aload_n hx hb dX5_init_13 rfl (lv_at hl 0 rfl) ?_
  refine lv_bipush (v := 64) hx hb dX5_init_14 (by decide) ?_
  have hcc : 1 + 1 ≤ 54 := by decide
  have hss : 512 + 64 ≤ 1548 := by decide
  refine va_newa (atype := .int) (a0 := (64, .inl (fun _ => 0))) (N' := 64) (ty := .int) hx hb (hts (.arrayClass .int) sw_ar) rfl hK hP hD hS hA (fun _ => rfl) (by decide) (by decide) (show 64 * 4 ≤ 536870912 by omega) hcc hss dX5_init_16 (fun q2 cA H hK hP hD hS => ?_)
  have eA := st_one 0 1 hK rfl rfl
  rw [eA] at hK hP hD
  have hK := hK.sub (tys' := [(cI, .int)]) [0] rfl
  have hP : va_P D vwCl [(h0, .inr (2, [.ref q1, .null, .null, .null, .null, .null, .int 0, .int 0, .int 0, .int 0, .int 0, .int 0, .int 0, .int 0])), (q1, .inl (cI, 512, .inl (fun _ => 0))), (q2, .inl (cI, 64, .inl (fun _ => 0)))] H := hP
  have hD : va_D A [(h0, .inr (2, [.ref q1, .null, .null, .null, .null, .null, .int 0, .int 0, .int 0, .int 0, .int 0, .int 0, .int 0, .int 0])), (q1, .inl (cI, 512, .inl (fun _ => 0))), (q2, .inl (cI, 64, .inl (fun _ => 0)))] := hD
  refine W.widen (k := 2) (n := 576) (by decide) (by decide) ?_
  refine va_putF (D := D) (ci := 2) (v := .ref q2) (ty := .array .int) (C := RX5) (T := TX5) (N := 14) hx hb hts fj_lay5 tyX5 tyX5_ok nmX5 hown hK hP hD hS 0 rfl rfl 1 (by decide) (hts (.fieldLink RX5 13 "TurnTasks" "memory" "[I") sw_fl_X5_13) (fun _ h9 => h9) rfl hin rfl (by decide +kernel) rfl rfl (Nat.le_of_ble_eq_true rfl) dX5_init_18 (fun H locs hP hD hS => ?_)
  have hP : va_P D vwCl [(h0, .inr (2, [.ref q1, .ref q2, .null, .null, .null, .null, .int 0, .int 0, .int 0, .int 0, .int 0, .int 0, .int 0, .int 0])), (q1, .inl (cI, 512, .inl (fun _ => 0))), (q2, .inl (cI, 64, .inl (fun _ => 0)))] H := hP
  have hD : va_D A [(h0, .inr (2, [.ref q1, .ref q2, .null, .null, .null, .null, .int 0, .int 0, .int 0, .int 0, .int 0, .int 0, .int 0, .int 0])), (q1, .inl (cI, 512, .inl (fun _ => 0))), (q2, .inl (cI, 64, .inl (fun _ => 0)))] := hD
  refine lv_aload_n hx hb dX5_init_21 rfl (lv_at hl 0 rfl) ?_
  refine lv_sipush (v := 300) hx hb dX5_init_22 (by decide) ?_
  have hcc : 2 + 1 ≤ 54 := by decide
  have hss : 576 + 300 ≤ 1548 := by decide
  refine va_newa (atype := .int) (a0 := (300, .inl (fun _ => 0))) (N' := 300) (ty := .int) hx hb (hts (.arrayClass .int) sw_ar) rfl hK hP hD hS hA (fun _ => rfl) (by decide) (by decide) (show 300 * 4 ≤ 536870912 by omega) hcc hss dX5_init_25 (fun q3 cA H hK hP hD hS => ?_)
  have eA := st_one 0 1 hK rfl rfl
  rw [eA] at hK hP hD
  have hK := hK.sub (tys' := [(cI, .int)]) [0] rfl
  have hP : va_P D vwCl [(h0, .inr (2, [.ref q1, .ref q2, .null, .null, .null, .null, .int 0, .int 0, .int 0, .int 0, .int 0, .int 0, .int 0, .int 0])), (q1, .inl (cI, 512, .inl (fun _ => 0))), (q2, .inl (cI, 64, .inl (fun _ => 0))), (q3, .inl (cI, 300, .inl (fun _ => 0)))] H := hP
  have hD : va_D A [(h0, .inr (2, [.ref q1, .ref q2, .null, .null, .null, .null, .int 0, .int 0, .int 0, .int 0, .int 0, .int 0, .int 0, .int 0])), (q1, .inl (cI, 512, .inl (fun _ => 0))), (q2, .inl (cI, 64, .inl (fun _ => 0))), (q3, .inl (cI, 300, .inl (fun _ => 0)))] := hD
  refine W.widen (k := 3) (n := 876) (by decide) (by decide) ?_
  refine va_putF (D := D) (ci := 2) (v := .ref q3) (ty := .array .int) (C := RX5) (T := TX5) (N := 14) hx hb hts fj_lay5 tyX5 tyX5_ok nmX5 hown hK hP hD hS 0 rfl rfl 2 (by decide) (hts (.fieldLink RX5 16 "TurnTasks" "record" "[I") sw_fl_X5_16) (fun _ h9 => h9) rfl hin rfl (by decide +kernel) rfl rfl (Nat.le_of_ble_eq_true rfl) dX5_init_27 (fun H locs hP hD hS => ?_)
  have hP : va_P D vwCl [(h0, .inr (2, [.ref q1, .ref q2, .ref q3, .null, .null, .null, .int 0, .int 0, .int 0, .int 0, .int 0, .int 0, .int 0, .int 0])), (q1, .inl (cI, 512, .inl (fun _ => 0))), (q2, .inl (cI, 64, .inl (fun _ => 0))), (q3, .inl (cI, 300, .inl (fun _ => 0)))] H := hP
  have hD : va_D A [(h0, .inr (2, [.ref q1, .ref q2, .ref q3, .null, .null, .null, .int 0, .int 0, .int 0, .int 0, .int 0, .int 0, .int 0, .int 0])), (q1, .inl (cI, 512, .inl (fun _ => 0))), (q2, .inl (cI, 64, .inl (fun _ => 0))), (q3, .inl (cI, 300, .inl (fun _ => 0)))] := hD
  refine lv_aload_n hx hb dX5_init_30 rfl (lv_at hl 0 rfl) ?_
  refine lv_bipush (v := 12) hx hb dX5_init_31 (by decide) ?_
  have hcc : 3 + 1 ≤ 54 := by decide
  have hss : 876 + 12 ≤ 1548 := by decide
  refine va_newq (C := RX4) (index := 19) (N' := 12) hx hb hown (hts (.classLink RX5 19 RX4) sw_cl_19) hO1 hK hP hD hS hA (by decide) (by decide) (show 12 * 4 ≤ 536870912 by omega) hcc hss dX5_init_33 (fun q4 cT H hK hP hD hS => ?_)
  have hK : va_K D vwCl [(cI, .int), (cT, .object RX4)] s := hK
  have hP : va_P D vwCl [(h0, .inr (2, [.ref q1, .ref q2, .ref q3, .null, .null, .null, .int 0, .int 0, .int 0, .int 0, .int 0, .int 0, .int 0, .int 0])), (q1, .inl (cI, 512, .inl (fun _ => 0))), (q2, .inl (cI, 64, .inl (fun _ => 0))), (q3, .inl (cI, 300, .inl (fun _ => 0))), (q4, .inl (cT, 12, .inr (.inr (.inr (.inr (fun _ => none))))))] H := hP
  have hD : va_D A [(h0, .inr (2, [.ref q1, .ref q2, .ref q3, .null, .null, .null, .int 0, .int 0, .int 0, .int 0, .int 0, .int 0, .int 0, .int 0])), (q1, .inl (cI, 512, .inl (fun _ => 0))), (q2, .inl (cI, 64, .inl (fun _ => 0))), (q3, .inl (cI, 300, .inl (fun _ => 0))), (q4, .inl (cT, 12, .inr (.inr (.inr (.inr (fun _ => none))))))] := hD
  refine W.widen (k := 4) (n := 888) (by decide) (by decide) ?_
  refine va_putF (D := D) (ci := 2) (v := .ref q4) (ty := .array (.object RX4)) (C := RX5) (T := TX5) (N := 14) hx hb hts fj_lay5 tyX5 tyX5_ok nmX5 hown hK hP hD hS 0 rfl rfl 3 (by decide) (hts (.fieldLink RX5 21 "TurnTasks" "tasks" "[LTurnTasks$Task;") sw_fl_X5_21) (fun _ h9 => h9) rfl hin rfl (by decide +kernel) rfl rfl (Nat.le_of_ble_eq_true rfl) dX5_init_36 (fun H locs hP hD hS => ?_)
  have hP : va_P D vwCl [(h0, .inr (2, [.ref q1, .ref q2, .ref q3, .ref q4, .null, .null, .int 0, .int 0, .int 0, .int 0, .int 0, .int 0, .int 0, .int 0])), (q1, .inl (cI, 512, .inl (fun _ => 0))), (q2, .inl (cI, 64, .inl (fun _ => 0))), (q3, .inl (cI, 300, .inl (fun _ => 0))), (q4, .inl (cT, 12, .inr (.inr (.inr (.inr (fun _ => none))))))] H := hP
  have hD : va_D A [(h0, .inr (2, [.ref q1, .ref q2, .ref q3, .ref q4, .null, .null, .int 0, .int 0, .int 0, .int 0, .int 0, .int 0, .int 0, .int 0])), (q1, .inl (cI, 512, .inl (fun _ => 0))), (q2, .inl (cI, 64, .inl (fun _ => 0))), (q3, .inl (cI, 300, .inl (fun _ => 0))), (q4, .inl (cT, 12, .inr (.inr (.inr (.inr (fun _ => none))))))] := hD
  refine lv_aload_n hx hb dX5_init_39 rfl (lv_at hl 0 rfl) ?_
  refine lv_bipush (v := 6) hx hb dX5_init_40 (by decide) ?_
  have hcc : 4 + 1 ≤ 54 := by decide
  have hss : 888 + 6 ≤ 1548 := by decide
  refine va_newq (C := RX0) (index := 25) (N' := 6) hx hb hown (hts (.classLink RX5 25 RX0) sw_cl_25) hO2 hK hP hD hS hA (by decide) (by decide) (show 6 * 4 ≤ 536870912 by omega) hcc hss dX5_init_42 (fun q5 cC H hK hP hD hS => ?_)
  have hK : va_K D vwCl [(cI, .int), (cT, .object RX4), (cC, .object RX0)] s := hK
  have hP : va_P D vwCl [(h0, .inr (2, [.ref q1, .ref q2, .ref q3, .ref q4, .null, .null, .int 0, .int 0, .int 0, .int 0, .int 0, .int 0, .int 0, .int 0])), (q1, .inl (cI, 512, .inl (fun _ => 0))), (q2, .inl (cI, 64, .inl (fun _ => 0))), (q3, .inl (cI, 300, .inl (fun _ => 0))), (q4, .inl (cT, 12, .inr (.inr (.inr (.inr (fun _ => none)))))), (q5, .inl (cC, 6, .inr (.inr (.inr (.inr (fun _ => none))))))] H := hP
  have hD : va_D A [(h0, .inr (2, [.ref q1, .ref q2, .ref q3, .ref q4, .null, .null, .int 0, .int 0, .int 0, .int 0, .int 0, .int 0, .int 0, .int 0])), (q1, .inl (cI, 512, .inl (fun _ => 0))), (q2, .inl (cI, 64, .inl (fun _ => 0))), (q3, .inl (cI, 300, .inl (fun _ => 0))), (q4, .inl (cT, 12, .inr (.inr (.inr (.inr (fun _ => none)))))), (q5, .inl (cC, 6, .inr (.inr (.inr (.inr (fun _ => none))))))] := hD
  refine W.widen (k := 5) (n := 894) (by decide) (by decide) ?_
  refine va_putF (D := D) (ci := 2) (v := .ref q5) (ty := .array (.object RX0)) (C := RX5) (T := TX5) (N := 14) hx hb hts fj_lay5 tyX5 tyX5_ok nmX5 hown hK hP hD hS 0 rfl rfl 4 (by decide) (hts (.fieldLink RX5 27 "TurnTasks" "channels" "[LTurnTasks$Channel;") sw_fl_X5_27) (fun _ h9 => h9) rfl hin rfl (by decide +kernel) rfl rfl (Nat.le_of_ble_eq_true rfl) dX5_init_45 (fun H locs hP hD hS => ?_)
  have hP : va_P D vwCl [(h0, .inr (2, [.ref q1, .ref q2, .ref q3, .ref q4, .ref q5, .null, .int 0, .int 0, .int 0, .int 0, .int 0, .int 0, .int 0, .int 0])), (q1, .inl (cI, 512, .inl (fun _ => 0))), (q2, .inl (cI, 64, .inl (fun _ => 0))), (q3, .inl (cI, 300, .inl (fun _ => 0))), (q4, .inl (cT, 12, .inr (.inr (.inr (.inr (fun _ => none)))))), (q5, .inl (cC, 6, .inr (.inr (.inr (.inr (fun _ => none))))))] H := hP
  have hD : va_D A [(h0, .inr (2, [.ref q1, .ref q2, .ref q3, .ref q4, .ref q5, .null, .int 0, .int 0, .int 0, .int 0, .int 0, .int 0, .int 0, .int 0])), (q1, .inl (cI, 512, .inl (fun _ => 0))), (q2, .inl (cI, 64, .inl (fun _ => 0))), (q3, .inl (cI, 300, .inl (fun _ => 0))), (q4, .inl (cT, 12, .inr (.inr (.inr (.inr (fun _ => none)))))), (q5, .inl (cC, 6, .inr (.inr (.inr (.inr (fun _ => none))))))] := hD
  refine lv_aload_n hx hb dX5_init_48 rfl (lv_at hl 0 rfl) ?_
  refine lv_bipush (v := 12) hx hb dX5_init_49 (by decide) ?_
  have hcc : 5 + 1 ≤ 54 := by decide
  have hss : 894 + 12 ≤ 1548 := by decide
  refine va_newa (atype := .int) (a0 := (12, .inl (fun _ => 0))) (N' := 12) (ty := .int) hx hb (hts (.arrayClass .int) sw_ar) rfl hK hP hD hS hA (fun _ => rfl) (by decide) (by decide) (show 12 * 4 ≤ 536870912 by omega) hcc hss dX5_init_51 (fun q6 cA H hK hP hD hS => ?_)
  have eA := st_one 0 3 hK rfl rfl
  rw [eA] at hK hP hD
  have hK := hK.sub (tys' := [(cI, .int), (cT, .object RX4), (cC, .object RX0)]) [0, 1, 2] rfl
  have hP : va_P D vwCl [(h0, .inr (2, [.ref q1, .ref q2, .ref q3, .ref q4, .ref q5, .null, .int 0, .int 0, .int 0, .int 0, .int 0, .int 0, .int 0, .int 0])), (q1, .inl (cI, 512, .inl (fun _ => 0))), (q2, .inl (cI, 64, .inl (fun _ => 0))), (q3, .inl (cI, 300, .inl (fun _ => 0))), (q4, .inl (cT, 12, .inr (.inr (.inr (.inr (fun _ => none)))))), (q5, .inl (cC, 6, .inr (.inr (.inr (.inr (fun _ => none)))))), (q6, .inl (cI, 12, .inl (fun _ => 0)))] H := hP
  have hD : va_D A [(h0, .inr (2, [.ref q1, .ref q2, .ref q3, .ref q4, .ref q5, .null, .int 0, .int 0, .int 0, .int 0, .int 0, .int 0, .int 0, .int 0])), (q1, .inl (cI, 512, .inl (fun _ => 0))), (q2, .inl (cI, 64, .inl (fun _ => 0))), (q3, .inl (cI, 300, .inl (fun _ => 0))), (q4, .inl (cT, 12, .inr (.inr (.inr (.inr (fun _ => none)))))), (q5, .inl (cC, 6, .inr (.inr (.inr (.inr (fun _ => none)))))), (q6, .inl (cI, 12, .inl (fun _ => 0)))] := hD
  refine W.widen (k := 6) (n := 906) (by decide) (by decide) ?_
  refine va_putF (D := D) (ci := 2) (v := .ref q6) (ty := .array .int) (C := RX5) (T := TX5) (N := 14) hx hb hts fj_lay5 tyX5 tyX5_ok nmX5 hown hK hP hD hS 0 rfl rfl 5 (by decide) (hts (.fieldLink RX5 31 "TurnTasks" "fallen" "[I") sw_fl_X5_31) (fun _ h9 => h9) rfl hin rfl (by decide +kernel) rfl rfl (Nat.le_of_ble_eq_true rfl) dX5_init_53 (fun H locs hP hD hS => ?_)
  have hP : va_P D vwCl [(h0, .inr (2, [.ref q1, .ref q2, .ref q3, .ref q4, .ref q5, .ref q6, .int 0, .int 0, .int 0, .int 0, .int 0, .int 0, .int 0, .int 0])), (q1, .inl (cI, 512, .inl (fun _ => 0))), (q2, .inl (cI, 64, .inl (fun _ => 0))), (q3, .inl (cI, 300, .inl (fun _ => 0))), (q4, .inl (cT, 12, .inr (.inr (.inr (.inr (fun _ => none)))))), (q5, .inl (cC, 6, .inr (.inr (.inr (.inr (fun _ => none)))))), (q6, .inl (cI, 12, .inl (fun _ => 0)))] H := hP
  have hD : va_D A [(h0, .inr (2, [.ref q1, .ref q2, .ref q3, .ref q4, .ref q5, .ref q6, .int 0, .int 0, .int 0, .int 0, .int 0, .int 0, .int 0, .int 0])), (q1, .inl (cI, 512, .inl (fun _ => 0))), (q2, .inl (cI, 64, .inl (fun _ => 0))), (q3, .inl (cI, 300, .inl (fun _ => 0))), (q4, .inl (cT, 12, .inr (.inr (.inr (.inr (fun _ => none)))))), (q5, .inl (cC, 6, .inr (.inr (.inr (.inr (fun _ => none)))))), (q6, .inl (cI, 12, .inl (fun _ => 0)))] := hD
  refine lv_aload_n hx hb dX5_init_56 rfl (lv_at hl 0 rfl) ?_
  refine lv_bipush (v := 8) hx hb dX5_init_57 (by decide) ?_
  refine va_put (D := D) (ci := 2) (v := .int 8) (ty := .int) (C := RX5) (T := TX5) (N := 14) hx hb hts fj_lay5 tyX5 tyX5_ok nmX5 hown hK hP hD hS 0 rfl rfl 6 (by decide) (hts (.fieldLink RX5 34 "TurnTasks" "quantum" "I") sw_fl_X5_34) (fun _ h9 => h9) rfl (by decide +kernel) rfl rfl (Nat.le_of_ble_eq_true rfl) dX5_init_59 (fun H locs hP hD hS => ?_)
  have hP : va_P D vwCl [(h0, .inr (2, [.ref q1, .ref q2, .ref q3, .ref q4, .ref q5, .ref q6, .int 8, .int 0, .int 0, .int 0, .int 0, .int 0, .int 0, .int 0])), (q1, .inl (cI, 512, .inl (fun _ => 0))), (q2, .inl (cI, 64, .inl (fun _ => 0))), (q3, .inl (cI, 300, .inl (fun _ => 0))), (q4, .inl (cT, 12, .inr (.inr (.inr (.inr (fun _ => none)))))), (q5, .inl (cC, 6, .inr (.inr (.inr (.inr (fun _ => none)))))), (q6, .inl (cI, 12, .inl (fun _ => 0)))] H := hP
  have hD : va_D A [(h0, .inr (2, [.ref q1, .ref q2, .ref q3, .ref q4, .ref q5, .ref q6, .int 8, .int 0, .int 0, .int 0, .int 0, .int 0, .int 0, .int 0])), (q1, .inl (cI, 512, .inl (fun _ => 0))), (q2, .inl (cI, 64, .inl (fun _ => 0))), (q3, .inl (cI, 300, .inl (fun _ => 0))), (q4, .inl (cT, 12, .inr (.inr (.inr (.inr (fun _ => none)))))), (q5, .inl (cC, 6, .inr (.inr (.inr (.inr (fun _ => none)))))), (q6, .inl (cI, 12, .inl (fun _ => 0)))] := hD
  refine lv_aload_n hx hb dX5_init_62 rfl (lv_at hl 0 rfl) ?_
  refine lv_iconst (v := 2) hx hb dX5_init_63 (by decide) ?_
  refine va_put (D := D) (ci := 2) (v := .int 2) (ty := .int) (C := RX5) (T := TX5) (N := 14) hx hb hts fj_lay5 tyX5 tyX5_ok nmX5 hown hK hP hD hS 0 rfl rfl 7 (by decide) (hts (.fieldLink RX5 38 "TurnTasks" "latest" "I") sw_fl_X5_38) (fun _ h9 => h9) rfl (by decide +kernel) rfl rfl (Nat.le_of_ble_eq_true rfl) dX5_init_64 (fun H locs hP hD hS => ?_)
  have hP : va_P D vwCl [(h0, .inr (2, [.ref q1, .ref q2, .ref q3, .ref q4, .ref q5, .ref q6, .int 8, .int 2, .int 0, .int 0, .int 0, .int 0, .int 0, .int 0])), (q1, .inl (cI, 512, .inl (fun _ => 0))), (q2, .inl (cI, 64, .inl (fun _ => 0))), (q3, .inl (cI, 300, .inl (fun _ => 0))), (q4, .inl (cT, 12, .inr (.inr (.inr (.inr (fun _ => none)))))), (q5, .inl (cC, 6, .inr (.inr (.inr (.inr (fun _ => none)))))), (q6, .inl (cI, 12, .inl (fun _ => 0)))] H := hP
  have hD : va_D A [(h0, .inr (2, [.ref q1, .ref q2, .ref q3, .ref q4, .ref q5, .ref q6, .int 8, .int 2, .int 0, .int 0, .int 0, .int 0, .int 0, .int 0])), (q1, .inl (cI, 512, .inl (fun _ => 0))), (q2, .inl (cI, 64, .inl (fun _ => 0))), (q3, .inl (cI, 300, .inl (fun _ => 0))), (q4, .inl (cT, 12, .inr (.inr (.inr (.inr (fun _ => none)))))), (q5, .inl (cC, 6, .inr (.inr (.inr (.inr (fun _ => none)))))), (q6, .inl (cI, 12, .inl (fun _ => 0)))] := hD
  refine lv_iconst (v := 0) hx hb dX5_init_67 (by decide) ?_
  refine lv_istore_n (lv' := [(1, .int (nI 0)), (0, .ref h0)]) hx hb dX5_init_68 rfl hl (by decide) rfl (fun ls hl => ?_)
  have hR : 54 ≤ 54 ∧ 1548 ≤ 1548 ∧ 2 ≤ 2 ∧ 32 ≤ 32 := by decide
  obtain ⟨qs, hqs⟩ : ∃ z : Nat → Nat, z = (fun k => [0, q1, q2, q3, q4, q5, q6].getD k 0) := ⟨_, rfl⟩
  have hP : va_P D vwCl (st_X h0 qs cI cT cC (fun _ => none) (fun _ => none) ++ ([] : List (Nat × Nat × Nat)).flatMap (st_gT cI)) H := by rw [hqs]; exact hP
  have hD : va_D A (st_X h0 qs cI cT cC (fun _ => none) (fun _ => none) ++ ([] : List (Nat × Nat × Nat)).flatMap (st_gT cI)) := by rw [hqs]; exact hD
  refine st_tasks (g := fun _ => none) hx hb hml hown hts hK hA hN1 hR (fun T f H locs ls hT hf hP hD hS hl => ?_) 12 0 [] (fun _ => none) H locs ls (by omega) rfl (fun j hj => absurd hj (Nat.not_lt_zero j)) hP hD hS hl
  refine lv_iconst (v := 0) hx hb dX5_init_94 (by decide) ?_
  refine lv_istore_n (lv' := [(1, .int (nI 0)), (0, .ref h0)]) hx hb dX5_init_95 rfl hl (by decide) rfl (fun ls hl => ?_)
  have hP : va_P D vwCl (st_X h0 qs cI cT cC f (fun _ => none) ++ (T.flatMap (st_gT cI) ++ ([] : List (Nat × Nat)).flatMap (st_gC cI))) H := by rw [List.flatMap_nil, List.append_nil]; exact hP
  have hD : va_D A (st_X h0 qs cI cT cC f (fun _ => none) ++ (T.flatMap (st_gT cI) ++ ([] : List (Nat × Nat)).flatMap (st_gC cI))) := by rw [List.flatMap_nil, List.append_nil]; exact hD
  refine st_chans (g := f) (P0 := T.flatMap (st_gT cI)) hx hb hml hown hts hK hA hN2 hR (fun S g H locs ls hS2 hg hP hD hS hl => ?_) 6 0 [] (fun _ => none) H locs ls (by omega) rfl (fun j hj => absurd hj (Nat.not_lt_zero j)) hP hD hS hl
  refine W.widen (k := 54) (n := 1548) (by decide) (by decide) ?_
  exact W.vret hx hb hr (fun t ht hW => ⟨⟨(qs, (T, S), (f, g), (cI, cT, cC)), rfl, ⟨hT, hS2, hf, hg⟩, by rw [ht]; exact hP, va_K.moved hW.alike hK, hD⟩, hS.F ht⟩) hS.2.2 dX5_init_121
