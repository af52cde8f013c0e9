set_option maxHeartbeats 4000000 in
set_option maxRecDepth 100000 in
/-- THE LAW, from its entry -/
theorem whole_start {p : Program} {e : Env} {s : State} {m : MethodId} {below : List Frame} {meth : Method} {c : Code} (l : Launch) {b L : Nat} {xs : Nat → Int32} (hL : L ≤ 1536) (C0 : lw_At p s m meth c b L xs) : W p l e room_1 s m #[Value.ref b] below meth c s.heap [] 0 0 (lw_Z below #[Value.ref b] s) (entryFrame m ([Value.ref b] : List Value).toArray 4) := by
  obtain ⟨hx, hb, hr, hml, hown, hts, hX, hbl, hlocks, hgv⟩ := id C0
  have hA : ∀ q : Nat, s.heap.size ≤ q → (fun q : Nat => s.heap.size ≤ q) q := fun _ h => h
  have htb : ∀ w ∈ fj_tb, w.before #[Value.ref b] s = true := fun w h => hts w (fj_tb_lw h)
  have hown : s.vm.findClass RL = some m.cls := hown
  obtain ⟨hO1, hO2, hN1, hN2⟩ := st_nest hts
  obtain ⟨k0, iS0, hKn0⟩ := u_known (C := RX0) (T := TX0) (N := 3) (n := 3) htb fj_lay0 (htb (.instantiable RX0 3) sw_it_X0)
  obtain ⟨k1, iS1, hKn1⟩ := u_known (C := RX4) (T := TX4) (N := 12) (n := 12) htb fj_lay4 (htb (.instantiable RX4 12) sw_it_X4)
  obtain ⟨k2, iS2, hKn2⟩ := u_known (C := RX5) (T := TX5) (N := 14) (n := 14) htb fj_lay5 (htb (.instantiable RX5 14) sw_it_X5)
  obtain ⟨k3, iS3, hKn3⟩ := u_known (C := RX6) (T := TX6) (N := 28) (n := 28) htb fj_lay6 (htb (.instantiable RX6 28) sw_it_X6)
  obtain ⟨D, hKc⟩ : ∃ D : va_G, ∀ (k : Nat) (q : vw_C), vwCl[k]? = some q → u_Kn s q.1 q.2.1 q.2.2 (D.1 k) (D.2 k) := by
    refine ⟨(fun k => if k = 0 then k0 else if k = 1 then k1 else if k = 2 then k2 else k3, fun k => if k = 0 then iS0 else if k = 1 then iS1 else if k = 2 then iS2 else iS3), ?_⟩
    intro k q hq
    match k, hq with
    | 0, hq => cases hq; exact hKn0
    | 1, hq => cases hq; exact hKn1
    | 2, hq => cases hq; exact hKn2
    | 3, hq => cases hq; exact hKn3
    | k + 4, hq => simp [vwCl] at hq
  have hS : va_S (fun q : Nat => s.heap.size ≤ q) s.heap s.heap [] := va_S.rf
  have hK : va_K D vwCl [] s := ⟨hKc, fun k q h => by simp at h⟩
  have hP : va_P D vwCl [] s.heap := fun k q h => by simp at h
  have hD : va_D (fun q : Nat => s.heap.size ≤ q) [] := ⟨fun i j p q h => by simp at h, fun k q h => by simp at h⟩
  have hl := lv_entry ([.ref b]) (n := 4) (Nat.le_of_ble_eq_true rfl)
  rw [lg_entry_eq]
  generalize (lg_sl ([.ref b]) ++ List.replicate (4 - (lg_sl ([.ref b])).length) Slot.unset).toArray = ls at hl ⊢
  have hl : lv_has ls 4 [(0, .ref b)] := hl
  refine va_new (ci := 2) (fs := [.null, .null, .null, .null, .null, .null, .int 0, .int 0, .int 0, .int 0, .int 0, .int 0, .int 0, .int 0]) (C := RX5) (T := TX5) (N := 14) hx hb htb fj_lay5 tyX5 tyX5_ok hown (htb (.classLink RL 7 RX5) sw_cl_L7) (htb (.instantiable RX5 14) sw_it_X5) (htb (.initialized RX5) sw_in_X5) hK hP hD hS hA rfl (fun j hj => match j, hj with
      | 0, _ => rfl
      | 1, _ => rfl
      | 2, _ => rfl
      | 3, _ => rfl
      | 4, _ => rfl
      | 5, _ => rfl
      | 6, _ => rfl
      | 7, _ => rfl
      | 8, _ => rfl
      | 9, _ => rfl
      | 10, _ => rfl
      | 11, _ => rfl
      | 12, _ => rfl
      | 13, _ => rfl
      | k + 14, h => absurd h (by omega)) (Nat.le_of_ble_eq_true rfl) (Nat.le_of_ble_eq_true rfl) dL_s_0 (fun q0 H hP hD hS => ?_)
  have hP : va_P D vwCl (st_0 q0) H := hP
  have hD : va_D (fun q : Nat => s.heap.size ≤ q) (st_0 q0) := hD
  refine W.widen (k := 1) (n := 14) (by omega) (by omega) ?_
  refine lv_dup hx hb dL_s_3 rfl ?_
  have hFc := va_free (wc := st_0 q0) hD hS hA [0] rfl
  refine va_callv (va_runI (As := []) (rest := [.ref q0]) ⟨hx, hb, hml, hown, htb⟩ (c_X5_init l D q0 H.size) (cwI 0 htb (st_good sw_cd_X5) rfl rfl rfl (htb (.initialized RX5) sw_in_X5) (htb (.methodLink RL 9 yX5_init) sw_ml_L9) (htb (.instanceMethod yX5_init) sw_im_X5) rfl (by decide +kernel) ⟨Nat.le_of_ble_eq_true rfl, Nat.le_of_ble_eq_true rfl⟩) ⟨fun a U g mk q => by obtain ⟨q0, q1, qP, qK, qD, o1, o2, n1, n2⟩ := q; exact ⟨q0, q1, qP, va_K.moved (u := U) (U := U.calling g mk a) (Vm.Alike.refl U.vm) qK, qD, va_AO.moved (u := U) (U := U.calling g mk a) (Vm.Alike.refl U.vm) o1, va_AO.moved (u := U) (U := U.calling g mk a) (Vm.Alike.refl U.vm) o2, va_Nw.same rfl rfl n1, va_Nw.same rfl rfl n2⟩, fun U hU hW => ⟨rfl, by rw [hU], by rw [hU]; exact hP, va_K.moved hW.alike hK, hD.weaken (fun _ _ _ _ => trivial), va_AO.moved hW.alike hO1, va_AO.moved hW.alike hO2, va_Nw.warmM hW hN1, va_Nw.warmM hW hN2⟩⟩ rfl rfl hl.1 rfl (lv_room (Nat.le_of_ble_eq_true rfl)) dL_s_4 ⟨Nat.le_of_ble_eq_true rfl, Nat.le_of_ble_eq_true rfl⟩) hS (fun q _ h => hFc q h) hFc (fun u t H1 locs ht hvm hw hB hz1 hk1 hS => ?_)
  obtain ⟨hP1, hK1, hD1⟩ := hB
  rw [ht] at hP1
  have hK1 := va_K.moved hvm.symm hK1
  obtain ⟨hP, hD⟩ := va_join (wr := []) (w1 := st_W q0 u) hP hD [0] [] rfl rfl (by decide) (by decide) hk1 hFc hP1 hD1
  have hP : va_P D vwCl (st_W q0 u) H1 := hP
  have hD : va_D (fun q : Nat => s.heap.size ≤ q) (st_W q0 u) := hD
  refine W.widen (k := 55) (n := 1562) (by omega) (by omega) ?_
  refine lv_astore_n (lv' := [(1, .ref q0), (0, .ref b)]) hx hb dL_s_7 rfl hl (by decide) rfl (fun ls hl => ?_)
  refine va_new (ci := 3) (fs := [.null, .null, .null, .null, .null, .null, .null, .null, .null, .null, .null, .null, .null, .null, .null, .null, .null, .null, .int 0, .int 0, .int 0, .int 0, .int 0, .int 0, .int 0, .int 0, .null, .int 0]) (C := RX6) (T := TX6) (N := 28) hx hb htb fj_lay6 tyX6 tyX6_ok hown (htb (.classLink RL 10 RX6) sw_cl_L10) (htb (.instantiable RX6 28) sw_it_X6) (htb (.initialized RX6) sw_in_X6) hK1 hP hD hS hA rfl (fun j hj => match j, hj with
      | 0, _ => rfl
      | 1, _ => rfl
      | 2, _ => rfl
      | 3, _ => rfl
      | 4, _ => rfl
      | 5, _ => rfl
      | 6, _ => rfl
      | 7, _ => rfl
      | 8, _ => rfl
      | 9, _ => rfl
      | 10, _ => rfl
      | 11, _ => rfl
      | 12, _ => rfl
      | 13, _ => rfl
      | 14, _ => rfl
      | 15, _ => rfl
      | 16, _ => rfl
      | 17, _ => rfl
      | 18, _ => rfl
      | 19, _ => rfl
      | 20, _ => rfl
      | 21, _ => rfl
      | 22, _ => rfl
      | 23, _ => rfl
      | 24, _ => rfl
      | 25, _ => rfl
      | 26, _ => rfl
      | 27, _ => rfl
      | k + 28, h => absurd h (by omega)) (Nat.le_of_ble_eq_true rfl) (Nat.le_of_ble_eq_true rfl) dL_s_8 (fun h6 H2 hP hD hS => ?_)
  have hP : va_P D vwCl (([] ++ st_W q0 u) ++ st_60 h6) H2 := hP
  have hD : va_D (fun q : Nat => s.heap.size ≤ q) (([] ++ st_W q0 u) ++ st_60 h6) := hD
  have hP : va_P D vwCl (st_60 h6 ++ st_W q0 u) H2 := va_P.swap (a := []) (b := st_W q0 u) (c := st_60 h6) hP
  have hD : va_D (fun q : Nat => s.heap.size ≤ q) (st_60 h6 ++ st_W q0 u) := va_D.swap (a := []) (b := st_W q0 u) (c := st_60 h6) hD
  refine W.widen (k := 56) (n := 1590) (by omega) (by omega) ?_
  refine lv_dup hx hb dL_s_11 rfl ?_
  have hPc := hP.sub (ws' := st_60 h6) [0] rfl
  have hDc := hD.sub (ws' := st_60 h6) [0] (by decide) rfl
  have hKc := hK1.sub (tys' := [(u.2.2.2.1, .int)]) [0] rfl
  have hFc := va_free (wc := st_60 h6) hD hS hA [0] rfl
  refine va_callv (va_runI (As := []) (rest := [.ref h6]) ⟨hx, hb, hml, hown, htb⟩ (c_X6_init l D u.2.2.2.1 h6 H2.size) (cwI 0 htb (st_good sw_cd_X6) rfl rfl rfl (htb (.initialized RX6) sw_in_X6) (htb (.methodLink RL 12 yX6_init) sw_ml_L12) (htb (.instanceMethod yX6_init) sw_im_X6) rfl (by decide +kernel) ⟨Nat.le_of_ble_eq_true rfl, Nat.le_of_ble_eq_true rfl⟩) ⟨fun a U g mk q => by obtain ⟨q0, q1, qP, qK, qD⟩ := q; exact ⟨q0, q1, qP, va_K.moved (u := U) (U := U.calling g mk a) (Vm.Alike.refl U.vm) qK, qD⟩, fun U hU hW => ⟨rfl, by rw [hU], by rw [hU]; exact hPc, va_K.moved hW.alike hKc, hDc.weaken (fun _ _ _ _ => trivial)⟩⟩ rfl rfl hl.1 rfl (lv_room (Nat.le_of_ble_eq_true rfl)) dL_s_12 ⟨Nat.le_of_ble_eq_true rfl, Nat.le_of_ble_eq_true rfl⟩) hS (fun q _ h => hFc q h) hFc (fun v t2 H3 locs2 ht2 hvm2 hw2 hB2 hz2 hk2 hS => ?_)
  obtain ⟨hP2, hK2, hD2⟩ := hB2
  rw [ht2] at hP2
  obtain ⟨hP, hD⟩ := va_joinQ (X := st_60 h6) (cx := st_60 h6) (wr := []) (w1 := st_6 h6 u.2.2.2.1 v) (pl := st_W q0 u) hP hD [0] [] rfl rfl (by decide) (by decide) hk2 hFc hP2 hD2
  have hP : va_P D vwCl (st_6 h6 u.2.2.2.1 v ++ st_W q0 u) H3 := hP
  have hD : va_D (fun q : Nat => s.heap.size ≤ q) (st_6 h6 u.2.2.2.1 v ++ st_W q0 u) := hD
  refine W.widen (k := 600000) (n := 7302250) (by omega) (by omega) ?_
  refine lv_astore_n (lv' := [(2, .ref h6), (1, .ref q0), (0, .ref b)]) hx hb dL_s_15 rfl hl (by decide) rfl (fun ls hl => ?_)
  exact st_law l hL C0 hw hP hD hK1 hS hl
