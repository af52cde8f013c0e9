/-! CALLS; EVERY RUN OF THE FLAT MACHINE IS ONE OF THE JVM -/
theorem fj_St.there {ad : Nat → Nat → Nat} {A B : Nat → Prop} {s U : State} {H : Heap} {locs : List Loc} (h : fj_St ad A s s.heap) (hS : va_S A s.heap H locs) (hAB : ∀ q, B q → A q) (hU : U.heap = H) (hvm : s.vm.Alike U.vm) : fj_St ad B U U.heap := by
  obtain ⟨h1, h2, h3, h4⟩ := h
  rw [hU]
  exact ⟨((h1.kept hS.2.1).narrow hAB).moved hvm, ((h2.kept hS.2.1).narrow hAB).moved hvm, ((h3.kept hS.2.1).narrow hAB).moved hvm, ((h4.kept hS.2.1).narrow hAB).moved hvm⟩
theorem fj_blind {D : va_G} {ad : Nat → Nat → Nat} {cI : ClassId} {cR : Nat → ClassId} {M : fj_M} {sz : Nat} {av : List Value} : FrameBlind (va_Pc av (fj_B D ad cI cR M sz)) := by
  intro a U g mk q
  obtain ⟨q0, q1, qP, qK, qD, q1', q2', q3', q4'⟩ := q
  have hvm : U.vm.Alike (U.calling g mk a).vm := Vm.Alike.refl U.vm
  exact ⟨q0, q1, qP, va_K.moved (u := U) (U := U.calling g mk a) hvm qK, qD, q1'.moved hvm, q2'.moved hvm, q3'.moved hvm, q4'.moved hvm⟩
theorem fj_rkC {o : Nat} (h : o = 0 ∨ o = 4 ∨ o = 5 ∨ o = 6) : ∃ (n ci : Nat) (T : u_T) (N : Nat), fj_lk (fj_rk o) fj_K = some (n, 0, ci, N) ∧ vwCl[ci]? = some (fj_Rn o, T, N) := by
  rcases h with rfl | rfl | rfl | rfl
  · exact ⟨6, 0, TX0, 3, rfl, rfl⟩
  · exact ⟨12, 1, TX4, 12, rfl, rfl⟩
  · exact ⟨1, 2, TX5, 14, rfl, rfl⟩
  · exact ⟨1, 3, TX6, 28, rfl, rfl⟩
theorem fj_ml_own : ∀ q ∈ fj_ml, fj_sta q.2 = false → fj_ow q.2 = 0 ∨ fj_ow q.2 = 4 ∨ fj_ow q.2 = 5 ∨ fj_ow q.2 = 6 := by decide +kernel
theorem fj_mlC_of {q : Nat × Nat} (h : q ∈ fj_ml) : ((fj_y q.2).cls ≠ "java/lang/invoke/MethodHandle" ∧ (fj_y q.2).cls ≠ "java/lang/invoke/VarHandle") ∧ ((parseMethodDescriptor (fj_y q.2).desc).map (fun d => d.parameters.length) = some (bif fj_sta q.2 then fj_na q.2 else fj_na q.2 - 1)) ∧ plainName (fj_y q.2).cls = true ∧ fj_na q.2 ≤ fj_nL q.2 ∧ (fj_y q.2).cls = fj_Rn (fj_ow q.2) ∧ q.2 < 123 := by
  have h1 := List.all_eq_true.mp fj_mlC_ok q h
  simp only [fj_mlC, Bool.and_eq_true, decide_eq_true_eq] at h1
  obtain ⟨⟨⟨⟨⟨⟨a1, a2⟩, a3⟩, a4⟩, a5⟩, a6⟩, a7⟩ := h1
  exact ⟨⟨a1, a2⟩, a3, a4, a5, a6, a7⟩
theorem fj_val_no {sc : Prop} {as : List fj_V} (h : ∀ v ∈ as, fj_val sc v) (hn : as.all fj_nX = true) : ∀ v ∈ as, fj_val False v := by
  intro v hv
  have h1 := h v hv
  have h2 := List.all_eq_true.mp hn v hv
  cases v with
  | inl x => trivial
  | inr r =>
    rcases h1 with h1 | h1 | h1 | ⟨h1, -⟩
    · exact Or.inl h1
    · exact Or.inr (Or.inl h1)
    · exact Or.inr (Or.inr (Or.inl h1))
    · subst h1
      cases h2
section FJS
variable {X : fj_X} {sc : Prop} {D : va_G} {ad : Nat → Nat → Nat} {cI : ClassId} {cR : Nat → ClassId} {A : Nat → Prop} {p : Program} {l : Launch} {e : Env} {R : Room} {s : State} {m : MethodId} {args : Array Value} {below : List Frame} {meth : Method} {c : Code} {k cells slots : Nat} {Q : State → Prop}
variable {pc nx tg : Nat} {sw : List (Int32 × Nat)} {ls : fj_L} {st : List fj_V} {M : fj_M} {H : Heap} {locs : List Loc} {lsA : Array Slot}
set_option maxHeartbeats 1000000 in
theorem fj_callV {n i k2 : Nat} {q : List fj_V × List fj_V} {r1 : fj_R} (hB : fj_Bn l n) (Fx : fj_Fix X sc D ad cI cR A p R s m args c k cells slots) (he : fj_code k pc = some (.invokevirtual i, nx, k2, sw)) (hcut : fj_cut (fj_na k2) [] st = some q) (hisr : fj_isr (fj_rk (fj_ow k2)) q.1 = true) (h8 : q.2.length ≤ 8) (hsta : fj_sta k2 = false) (hnX : q.1.all fj_nX = true) (hex : fj_ex X n (k2, 0, fj_en q.1 (fj_nL k2), [], M) = some r1) (hw : fj_Wd D ad cI cR A s M H locs) (hl : fj_has ad lsA (fj_nL k) ls) (hv : fj_vals sc ls st)
    (kk : ∀ (H' : Heap) (locs' : List Loc), fj_Wd D ad cI cR A s r1.2 H' locs' → W p l e R s m args below meth c H' locs' cells slots Q (F0 m nx lsA ((fj_ps r1.1 q.2).map (fj_vv ad)))) : W p l e R s m args below meth c H locs cells slots Q (F0 m pc lsA (st.map (fj_vv ad))) := by
  obtain ⟨hx, hb, hml, hown, hts, hK, hSt, hA, hsc, hR, hcs⟩ := Fx
  obtain ⟨hP, hD, hS⟩ := hw
  obtain ⟨hdec, hnx⟩ := fj_dc he rfl
  replace hnx : nx = pc + 3 := hnx
  subst hnx
  have hok := fj_dx he
  simp only [fj_okx, Bool.and_eq_true, decide_eq_true_eq] at hok
  obtain ⟨⟨⟨hi, hlk⟩, hfr⟩, hlc⟩ := hok
  have hmem := fj_lk_mem hlk
  obtain ⟨hne, hpar, hpl, hnaL, hcl, h123⟩ := fj_mlC_of hmem
  obtain ⟨hst, hlen⟩ := fj_cut_st hcut
  obtain ⟨hw1, hw2, hw3⟩ := fj_mws _ hmem
  simp only [hsta] at hw3 hpar hne hpl hnaL hcl h123
  rw [(fj_div (o := fj_ow k) hi).1, (fj_div (o := fj_ow k) hi).2] at hw1
  obtain ⟨as, rest⟩ := q
  rcases as with _ | ⟨x | ⟨κ, a⟩, as⟩
  · cases hisr
  · cases hisr
  have hκ : κ = fj_rk (fj_ow k2) := Nat.eq_of_beq_eq_true hisr
  subst hκ
  have hvs : ∀ v ∈ (.inr (fj_rk (fj_ow k2), a) :: as : List fj_V), fj_val sc v := fun v hv1 => hv.2 v (by rw [hst]; exact List.mem_append_left _ (List.mem_reverse.mpr hv1))
  have hFc : ∀ q, va_A (fj_ws ad cI cR M) H.size q → A q := by
    intro q h
    rcases h with ⟨k1, e1, h⟩ | h
    · exact hD.2 k1 _ h
    · exact hA q (Nat.le_trans hS.1 h)
  have hM := fj_A hB X D ad cI cR k2 _ M r1 H.size hex hpl hcl (by rw [hlen]; exact hnaL) (fj_val_no hvs hnX)
  obtain ⟨n0, ci, T0, N0, hk1, hk2⟩ := fj_rkC (fj_ml_own _ hmem hsta)
  obtain ⟨p0, hp⟩ := fj_cell_at hk1 (fj_val_in (hvs _ List.mem_cons_self) hk1)
  have hws := fj_ws_at (ad := ad) (cI := cI) (cR := cR) (M := M) hp
  rw [fj_E_obj hk1] at hws
  have hT : GoodIn fj_tb (wsV (fj_Rn (fj_ow k)) i (fj_Rn (fj_ow k2)) (fj_y k2) (fj_wk k2)) := by
    intro w hw
    refine fj_tb_good w ?_
    rcases List.mem_append.mp hw with h | h
    · rcases List.mem_cons.mp h with rfl | h
      · exact hw1
      rcases List.mem_cons.mp h with rfl | h
      · exact hw3.1
      rcases List.mem_cons.mp h with rfl | h
      · rw [← hcl]; exact hw3.2
      rcases List.mem_cons.mp h with rfl | h
      · rw [← hcl]; exact hw2
      · exact absurd h List.not_mem_nil
    · rcases List.mem_cons.mp h with rfl | h
      · exact fj_cw k2 h123
      · exact h
  have hpre : PreV s H (fj_Rn (fj_ow k2)) (ad (fj_rk (fj_ow k2)) a) (va_Pc ((.inr (fj_rk (fj_ow k2), a) :: as : List fj_V).map (fj_vv ad)) (fj_B D ad cI cR M H.size)) (as.map (fj_vv ad)) :=
    ⟨fj_blind, va_recv hK hP hk2 hws, fun U hU hW => ⟨rfl, by rw [hU], by rw [hU]; exact hP, va_K.moved hW.alike hK, hD.weaken (fun _ _ _ _ => trivial), hSt.there hS hFc hU hW.alike⟩⟩
  have hrun := va_runV (p := p) (l := l) (e := e) (R := R) (m := m) (below := below) (meth := meth) (c := c) (locs := locs) (cells := cells) (slots := slots) (g := F0 m pc lsA (st.map (fj_vv ad))) (rest := rest.map (fj_vv ad)) (nL := fj_nL k) ⟨hx, hb, hml, hown, hts⟩ hM (cwV as.length hts hT rfl rfl rfl ⟨hcl, hne.1, hne.2, by rw [hpar]; have := hlen; simp only [List.length_cons] at this; rw [← this]; rfl⟩ ⟨Nat.le_trans hfr hR.1, Nat.le_trans hlc hR.2⟩) hpre rfl (by rw [List.length_map]) hl.1 (by
    show st.map (fj_vv ad) = _
    rw [hst]
    simp [fj_vv]) (lv_room (by rw [fj_catsum]; exact h8)) hdec ⟨hcs.1, hcs.2⟩
  obtain ⟨rv, M1⟩ := r1
  cases rv with
  | some v =>
    refine va_calli (a := #[]) hrun hS (fun q _ h => hFc q h) hFc (fun r u t H1 locs1 ht hvm hw hBt hz1 hk1 hS1 => ?_)
    have hw : r = v := hw
    subst hw
    exact kk H1 locs1 ⟨by rw [← ht]; exact hBt.1, hBt.2.2.weaken (fun k q _ h => hFc q.1 h), hS1⟩
  | none =>
    refine va_callv (a := #[]) hrun hS (fun q _ h => hFc q h) hFc (fun u t H1 locs1 ht hvm hw hBt hz1 hk1 hS1 => ?_)
    exact kk H1 locs1 ⟨by rw [← ht]; exact hBt.1, hBt.2.2.weaken (fun k q _ h => hFc q.1 h), hS1⟩
set_option maxHeartbeats 1000000 in
theorem fj_callS {n i k2 : Nat} {q : List fj_V × List fj_V} {r1 : fj_R} (hB : fj_Bn l n) (Fx : fj_Fix X sc D ad cI cR A p R s m args c k cells slots) (he : fj_code k pc = some (.invokestatic i, nx, k2, sw)) (h999 : Nat.beq k2 999 = false) (hcut : fj_cut (fj_na k2) [] st = some q) (h8 : q.2.length ≤ 8) (hsta : fj_sta k2 = true) (hnX : q.1.all fj_nX = true) (hex : fj_ex X n (k2, 0, fj_en q.1 (fj_nL k2), [], M) = some r1) (hw : fj_Wd D ad cI cR A s M H locs) (hl : fj_has ad lsA (fj_nL k) ls) (hv : fj_vals sc ls st)
    (kk : ∀ (H' : Heap) (locs' : List Loc), fj_Wd D ad cI cR A s r1.2 H' locs' → W p l e R s m args below meth c H' locs' cells slots Q (F0 m nx lsA ((fj_ps r1.1 q.2).map (fj_vv ad)))) : W p l e R s m args below meth c H locs cells slots Q (F0 m pc lsA (st.map (fj_vv ad))) := by
  obtain ⟨hx, hb, hml, hown, hts, hK, hSt, hA, hsc, hR, hcs⟩ := Fx
  obtain ⟨hP, hD, hS⟩ := hw
  obtain ⟨hdec, hnx⟩ := fj_dc he rfl
  replace hnx : nx = pc + 3 := hnx
  subst hnx
  have hok := fj_dx he
  simp only [fj_okx, h999, cond_false, Bool.and_eq_true, decide_eq_true_eq] at hok
  obtain ⟨hi, ⟨hlk, hfr⟩, hlc⟩ := hok
  have hmem := fj_lk_mem hlk
  obtain ⟨hne, hpar, hpl, hnaL, hcl, h123⟩ := fj_mlC_of hmem
  obtain ⟨hst, hlen⟩ := fj_cut_st hcut
  obtain ⟨hw1, hw2, hw3⟩ := fj_mws _ hmem
  simp only [hsta] at hw3 hpar hne hpl hnaL hcl h123
  rw [(fj_div (o := fj_ow k) hi).1, (fj_div (o := fj_ow k) hi).2] at hw1
  obtain ⟨as, rest⟩ := q
  have hvs : ∀ v ∈ as, fj_val sc v := fun v hv1 => hv.2 v (by rw [hst]; exact List.mem_append_left _ (List.mem_reverse.mpr hv1))
  have hFc : ∀ q, va_A (fj_ws ad cI cR M) H.size q → A q := by
    intro q h
    rcases h with ⟨k1, e1, h⟩ | h
    · exact hD.2 k1 _ h
    · exact hA q (Nat.le_trans hS.1 h)
  have hM := fj_A hB X D ad cI cR k2 _ M r1 H.size hex hpl hcl (by rw [hlen]; exact hnaL) (fj_val_no hvs hnX)
  have hT : GoodIn fj_tb (va_wsS (fj_Rn (fj_ow k)) i (fj_y k2) (fj_wk k2)) := by
    intro w hw
    refine fj_tb_good w ?_
    rcases List.mem_append.mp hw with h | h
    · rcases List.mem_cons.mp h with rfl | h
      · exact hw1
      rcases List.mem_cons.mp h with rfl | h
      · exact hw3
      rcases List.mem_cons.mp h with rfl | h
      · exact hw2
      · exact absurd h List.not_mem_nil
    · rcases List.mem_cons.mp h with rfl | h
      · exact fj_cw k2 h123
      · exact h
  have hpre : PreS s H (va_Pc (as.map (fj_vv ad)) (fj_B D ad cI cR M H.size)) (as.map (fj_vv ad)) :=
    ⟨fj_blind, fun U hU hW => ⟨rfl, by rw [hU], by rw [hU]; exact hP, va_K.moved hW.alike hK, hD.weaken (fun _ _ _ _ => trivial), hSt.there hS hFc hU hW.alike⟩⟩
  have hrun := va_runS (p := p) (l := l) (e := e) (R := R) (m := m) (below := below) (meth := meth) (c := c) (locs := locs) (cells := cells) (slots := slots) (g := F0 m pc lsA (st.map (fj_vv ad))) (rest := rest.map (fj_vv ad)) (nL := fj_nL k) ⟨hx, hb, hml, hown, hts⟩ hM (va_cwS as.length hts hT rfl rfl rfl ⟨hne.1, hne.2, by rw [hpar]; have := hlen; rw [← this]; rfl⟩ ⟨Nat.le_trans hfr hR.1, Nat.le_trans hlc hR.2⟩) hpre rfl (by rw [List.length_map]) hl.1 (by
    show st.map (fj_vv ad) = _
    rw [hst]
    simp) (lv_room (by rw [fj_catsum]; exact h8)) hdec ⟨hcs.1, hcs.2⟩
  obtain ⟨rv, M1⟩ := r1
  cases rv with
  | some v =>
    refine va_calli (a := #[]) hrun hS (fun q _ h => hFc q h) hFc (fun r u t H1 locs1 ht hvm hw hBt hz1 hk1 hS1 => ?_)
    have hw : r = v := hw
    subst hw
    exact kk H1 locs1 ⟨by rw [← ht]; exact hBt.1, hBt.2.2.weaken (fun k q _ h => hFc q.1 h), hS1⟩
  | none =>
    refine va_callv (a := #[]) hrun hS (fun q _ h => hFc q h) hFc (fun u t H1 locs1 ht hvm hw hBt hz1 hk1 hS1 => ?_)
    exact kk H1 locs1 ⟨by rw [← ht]; exact hBt.1, hBt.2.2.weaken (fun k q _ h => hFc q.1 h), hS1⟩
end FJS
theorem fj_ps_val {sc : Prop} {r : Option Int32} {st : List fj_V} (h : ∀ v ∈ st, fj_val sc v) : ∀ v ∈ fj_ps r st, fj_val sc v := by
  cases r with
  | none => exact h
  | some x => exact List.forall_mem_cons.mpr ⟨trivial, h⟩
theorem fj_allB (l : Launch) : ∀ n, fj_Bn l n := by
  intro n
  induction n with
  | zero =>
    intro X sc D ad cI cR A p e R s m args below meth c k cells slots Q pc ls st M r H locs lsA Fx hex
    cases hex
  | succ n ih =>
    intro X sc D ad cI cR A p e R s m args below meth c k cells slots Q pc ls st M r H locs lsA Fx hex hw hl hv hend
    rw [fj_ex] at hex
    cases hc : fj_code k pc with
    | none =>
      have h0 : fj_dec X (k, pc, ls, st, M) = none := by
        unfold fj_dec
        simp only [hc]
      rw [h0] at hex
      cases hex
    | some e0 =>
      cases hdE : fj_dec X (k, pc, ls, st, M) with
      | none => rw [hdE] at hex; cases hex
      | some E =>
        rw [hdE] at hex
        rcases fj_dec_inv hc hdE with ⟨v, h1, h2, h3, h4, h5⟩ | ⟨h1, h2, h3, h4⟩ | ⟨i, k2, q, h1, h2, h3, h4, h5, h6, h7, h8⟩ | ⟨i, k2, q, h1, h2, h3, h5, h6, h7, h8⟩ | ⟨d, h1, h2, h3⟩
        · subst h3
          have hr := fj_sj hex
          subst hr
          rw [h2]
          have hd := (fj_dc hc (by rw [h1]; rfl)).1
          rw [h1] at hd
          exact hend pc lsA H locs hw ⟨hd, h4, h5⟩
        · subst h3
          have hr := fj_sj hex
          subst hr
          rw [h2]
          have hd := (fj_dc hc (by rw [h1]; rfl)).1
          rw [h1] at hd
          exact hend pc lsA H locs hw ⟨hd, h4⟩
        · subst h8
          obtain ⟨ins, nx, tg, sw⟩ := e0
          have h1 : ins = .invokevirtual i := h1
          subst h1
          have h2 : k2 = tg := Eq.symm h2
          subst h2
          simp only [fj_cc] at hex
          cases hx1 : fj_ex X n (k2, 0, fj_en q.1 (fj_nL k2), [], M) with
          | none => rw [hx1] at hex; cases hex
          | some r1 =>
            rw [hx1] at hex
            refine fj_callV ih Fx hc h3 h4 h5 h6 h7 hx1 hw hl hv (fun H' locs' hw' => ?_)
            exact ih X sc D ad cI cR A p e R s m args below meth c k cells slots Q nx ls (fj_ps r1.1 q.2) r1.2 r H' locs' lsA Fx hex hw' hl ⟨hv.1, fj_ps_val (fun v h => hv.2 v (by rw [(fj_cut_st h3).1]; exact List.mem_append_right _ h))⟩ hend
        · subst h8
          obtain ⟨ins, nx, tg, sw⟩ := e0
          have h1 : ins = .invokestatic i := h1
          subst h1
          obtain ⟨h2, h29⟩ := h2
          have h2 : k2 = tg := Eq.symm h2
          subst h2
          simp only [fj_cc] at hex
          cases hx1 : fj_ex X n (k2, 0, fj_en q.1 (fj_nL k2), [], M) with
          | none => rw [hx1] at hex; cases hex
          | some r1 =>
            rw [hx1] at hex
            refine fj_callS ih Fx hc h29 h3 h5 h6 h7 hx1 hw hl hv (fun H' locs' hw' => ?_)
            exact ih X sc D ad cI cR A p e R s m args below meth c k cells slots Q nx ls (fj_ps r1.1 q.2) r1.2 r H' locs' lsA Fx hex hw' hl ⟨hv.1, fj_ps_val (fun v h => hv.2 v (by rw [(fj_cut_st h3).1]; exact List.mem_append_right _ h))⟩ hend
        · subst h2
          exact fj_goW Fx hc h1 h3 hw hl hv (fun H' locs' lsA' hw' hl' hv' => ih X sc D ad cI cR A p e R s m args below meth c k cells slots Q d.1 d.2.1 d.2.2.1 d.2.2.2 r H' locs' lsA' Fx hex hw' hl' hv' hend)
