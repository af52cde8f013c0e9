/-! MEMORY, SWITCHES -/
theorem fj_val_in {sc : Prop} {κ a : Nat} {t : Nat × Nat × Nat × Nat} (hv : fj_val sc (.inr (κ, a))) (h : fj_lk κ fj_K = some t) : a < t.1 := by
  have hs : κ < 40 := fj_K_small _ (fj_lk_mem h)
  rcases hv with ⟨t2, h1, h2⟩ | h1 | h1 | ⟨h1, -⟩
  · have h1 : fj_lk κ fj_K = some t2 := h1
    rw [h] at h1
    cases h1
    exact h2
  · have : κ = 40 := congrArg Prod.fst h1
    omega
  · have : κ = 41 := congrArg Prod.fst h1
    omega
  · have : κ = 42 := congrArg Prod.fst h1
    omega
theorem fj_ln_small {X : fj_X} {κ : Nat} (h : κ < 40) : fj_ln X κ = (match fj_lk κ fj_K with
    | some (_, 1, n, _) => some n
    | _ => none) := by
  unfold fj_ln
  split
  · omega
  · omega
  · omega
  · rfl
theorem fj_gt_small {X : fj_X} {M : fj_M} {κ a j : Nat} (h : κ < 40) : fj_gt X M κ a j = fj_rd M κ a j := by
  unfold fj_gt
  split
  · omega
  · omega
  · omega
  · rfl
theorem fj_catsum (ad : Nat → Nat → Nat) (st : List fj_V) : ((st.map (fj_vv ad)).map fun v => v.category).sum = st.length := by
  induction st with
  | nil => rfl
  | cons z st ih =>
    rw [List.map_cons, List.map_cons, List.sum_cons, ih, fj_vv_cat, List.length_cons]
    omega
theorem fj_lks {pc tg : Nat} {dflt : Int} {x : Int32} (hd : (pc : Int) + dflt = (tg : Int)) : ∀ (ps : List (Int × Int)) (sw : List (Int32 × Nat)), ps.length = sw.length → (∀ q ∈ ps.zip sw, q.2.1.toInt = q.1.1 ∧ (pc : Int) + q.1.2 = (q.2.2 : Int)) → (pc : Int) + Op.lookupswitch.offset ps dflt x.toInt = (fj_sw tg sw x : Int)
  | [], [], _, _ => hd
  | [], _ :: _, h, _ => by simp at h
  | _ :: _, [], h, _ => by simp at h
  | (a, o) :: ps, q :: sw, h, hz => by
    have h0 := hz ((a, o), q) List.mem_cons_self
    have ih := fj_lks (x := x) hd ps sw (by simpa using h) (fun z hz2 => hz z (List.mem_cons_of_mem _ hz2))
    rw [Op.lookupswitch.offset_cons]
    show _ = ((if x = q.1 then q.2 else fj_sw tg sw x : Nat) : Int)
    by_cases hx : x = q.1
    · rw [if_pos hx, if_pos (by rw [hx]; exact h0.1.symm)]
      exact h0.2
    · rw [if_neg hx, if_neg (fun z => hx (Int32.toInt_inj.mp (by rw [h0.1]; exact z.symm)))]
      exact ih
section FJG
variable {X : fj_X} {sc : Prop} {D : va_G} {ad : Nat → Nat → Nat} {cI : ClassId} {cR : Nat → ClassId} {A : Nat → Prop} {p : Program} {l : Launch} {e : Env} {R : Room} {s : State} {m : MethodId} {args : Array Value} {below : List Frame} {meth : Method} {c : Code} {k cells slots : Nat} {Q : State → Prop}
variable {pc nx tg : Nat} {sw : List (Int32 × Nat)} {ls : fj_L} {st : List fj_V} {M : fj_M} {d : Nat × fj_L × List fj_V × fj_M} {H : Heap} {locs : List Loc} {lsA : Array Slot}
theorem fj_g_getfield {i : Nat} (Fx : fj_Fix X sc D ad cI cR A p R s m args c k cells slots) (he : fj_code k pc = some (.getfield i, nx, tg, sw)) (hg : fj_go X (.getfield i, nx, tg, sw) ls st M = some d) (hw : fj_Wd D ad cI cR A s M H locs) (hl : fj_has ad lsA (fj_nL k) ls) (hv : fj_vals sc ls st)
    (kk : ∀ (H' : Heap) (locs' : List Loc) (lsA' : Array Slot), fj_Wd D ad cI cR A s d.2.2.2 H' locs' → fj_has ad lsA' (fj_nL k) d.2.1 → fj_vals sc d.2.1 d.2.2.1 → W p l e R s m args below meth c H' locs' cells slots Q (F0 m d.1 lsA' (d.2.2.1.map (fj_vv ad)))) : W p l e R s m args below meth c H locs cells slots Q (F0 m pc lsA (st.map (fj_vv ad))) := by
  obtain ⟨hx, hb, hml, hown, hts, hK, hSt, hA, hsc, hR, hcs⟩ := Fx
  obtain ⟨hP, hD, hS⟩ := hw
  obtain ⟨hdec, hnx⟩ := fj_dc he rfl
  replace hnx : nx = pc + 3 := hnx
  subst hnx
  have hok := fj_dx he
  simp only [fj_okx, Bool.and_eq_true, decide_eq_true_eq] at hok
  obtain ⟨hi, hk⟩ := hok
  rcases st with _ | ⟨x | ⟨r1, r2⟩, st⟩
  · exact fj_nn hg
  · exact fj_nn hg
  have hg : (match Nat.beq (tg / 100) r1 with
      | true => match fj_lk tg fj_F with
        | some κ => some (pc + 3, ls, (.inr (κ, r2) :: st : List fj_V), M)
        | none => some (pc + 3, ls, .inl (fj_rd M (tg / 100) r2 (tg % 100)) :: st, M)
      | false => none) = some d := hg
  obtain ⟨v1, v2⟩ := List.forall_mem_cons.mp hv.2
  cases hbq : Nat.beq (tg / 100) r1 with
  | false => rw [hbq] at hg; cases hg
  | true =>
    rw [hbq] at hg
    have hr : tg / 100 = r1 := Nat.eq_of_beq_eq_true hbq
    have htg : tg / 100 * 100 + tg % 100 = tg := by omega
    generalize hj : tg % 100 = j at *
    rw [hr] at hk htg hg
    rw [← htg] at hg
    have hm := fj_lk_mem hk
    obtain ⟨n, ci, C, T, N, ty, h1, h2, h3, h4, h5, h6, h7, h8⟩ := fj_objs hm
    rw [(fj_div (o := fj_ow k) hi).1, (fj_div (o := fj_ow k) hi).2] at h7
    obtain ⟨p0, hp⟩ := fj_cell_at h1 (fj_val_in v1 h1)
    have hws := fj_ws_at (ad := ad) (cI := cI) (cR := cR) (M := M) hp
    rw [fj_E_obj h1] at hws
    cases hF : fj_lk (r1 * 100 + j) fj_F with
    | some κ2 =>
      rw [hF] at hg
      have hg := fj_sj hg
      subst hg
      refine va_get (v := .ref (ad κ2 r2)) hx hb hts h3 hown hK hP p0 hws h2 j h6 (hts _ h7) (fun _ h9 => h9) (by rw [List.getElem?_map, List.getElem?_range h6]; simp [fj_fv, hF]) hdec ?_
      refine kk H locs lsA ⟨hP, hD, hS⟩ hl ⟨hv.1, List.forall_mem_cons.mpr ⟨Or.inl ?_, v2⟩⟩
      have h9 := fj_F_ok _ hm κ2 hF
      have h10 : (fj_lk r1 fj_K).map (fun t => t.1) = some n := by rw [h1]; rfl
      have h11 : (fj_lk κ2 fj_K).map (fun t => t.1) = some n := h9.trans h10
      obtain ⟨t, ht, ht2⟩ := Option.map_eq_some_iff.mp h11
      exact ⟨t, ht, by rw [ht2]; exact fj_val_in v1 h1⟩
    | none =>
      rw [hF] at hg
      have hg := fj_sj hg
      subst hg
      refine va_get (v := .int (fj_rd M r1 r2 j)) hx hb hts h3 hown hK hP p0 hws h2 j h6 (hts _ h7) (fun _ h9 => h9) (by rw [List.getElem?_map, List.getElem?_range h6]; simp [fj_fv, hF]) hdec ?_
      exact kk H locs lsA ⟨hP, hD, hS⟩ hl ⟨hv.1, List.forall_mem_cons.mpr ⟨trivial, v2⟩⟩

theorem fj_g_putfield {i : Nat} (Fx : fj_Fix X sc D ad cI cR A p R s m args c k cells slots) (he : fj_code k pc = some (.putfield i, nx, tg, sw)) (hg : fj_go X (.putfield i, nx, tg, sw) ls st M = some d) (hw : fj_Wd D ad cI cR A s M H locs) (hl : fj_has ad lsA (fj_nL k) ls) (hv : fj_vals sc ls st)
    (kk : ∀ (H' : Heap) (locs' : List Loc) (lsA' : Array Slot), fj_Wd D ad cI cR A s d.2.2.2 H' locs' → fj_has ad lsA' (fj_nL k) d.2.1 → fj_vals sc d.2.1 d.2.2.1 → W p l e R s m args below meth c H' locs' cells slots Q (F0 m d.1 lsA' (d.2.2.1.map (fj_vv ad)))) : W p l e R s m args below meth c H locs cells slots Q (F0 m pc lsA (st.map (fj_vv ad))) := by
  obtain ⟨hx, hb, hml, hown, hts, hK, hSt, hA, hsc, hR, hcs⟩ := Fx
  obtain ⟨hP, hD, hS⟩ := hw
  obtain ⟨hdec, hnx⟩ := fj_dc he rfl
  replace hnx : nx = pc + 3 := hnx
  subst hnx
  have hok := fj_dx he
  simp only [fj_okx, Bool.and_eq_true, decide_eq_true_eq] at hok
  obtain ⟨hi, hk⟩ := hok
  rcases st with _ | ⟨v | r, _ | ⟨x | ⟨r1, r2⟩, st⟩⟩
  · exact fj_nn hg
  · exact fj_nn hg
  · exact fj_nn hg
  rotate_left
  · exact fj_nn hg
  · exact fj_nn hg
  · exact fj_nn hg
  have hg : (match Nat.beq (tg / 100) r1 with
      | true => match fj_lk tg fj_F with
        | some _ => none
        | none => some (pc + 3, ls, st, fj_up M (tg / 100) r2 (tg % 100) v)
      | false => none) = some d := hg
  obtain ⟨v1, v2⟩ := List.forall_mem_cons.mp (List.forall_mem_cons.mp hv.2).2
  cases hbq : Nat.beq (tg / 100) r1 with
  | false => rw [hbq] at hg; cases hg
  | true =>
    rw [hbq] at hg
    have hr : tg / 100 = r1 := Nat.eq_of_beq_eq_true hbq
    have htg : tg / 100 * 100 + tg % 100 = tg := by omega
    generalize hj : tg % 100 = j at *
    rw [hr] at hk htg hg
    rw [← htg] at hg
    have hm := fj_lk_mem hk
    obtain ⟨n, ci, C, T, N, ty, h1, h2, h3, h4, h5, h6, h7, h8⟩ := fj_objs hm
    rw [(fj_div (o := fj_ow k) hi).1, (fj_div (o := fj_ow k) hi).2] at h7
    obtain ⟨p0, hp⟩ := fj_cell_at h1 (fj_val_in v1 h1)
    have hws := fj_ws_at (ad := ad) (cI := cI) (cR := cR) (M := M) hp
    rw [fj_E_obj h1] at hws
    cases hF : fj_lk (r1 * 100 + j) fj_F with
    | some κ2 => rw [hF] at hg; cases hg
    | none =>
      rw [hF] at hg
      have hg := fj_sj hg
      subst hg
      refine va_put (v := .int v) (ty := .int) hx hb hts h3 ty h4 h5 hown hK hP hD hS p0 hws h2 j h6 (hts _ h7) (fun _ h9 => h9) (h8 hF).1 (h8 hF).2 rfl rfl (by rw [List.length_map, List.length_range]; exact h6) hdec (fun H1 locs1 hP1 hD1 hS1 => ?_)
      rw [fj_ws_set hp (by rw [fj_E_obj h1, fj_fs_set hF h6])] at hP1 hD1
      exact kk H1 locs1 lsA ⟨hP1, hD1, hS1⟩ hl ⟨hv.1, v2⟩

theorem fj_g_getstatic {i : Nat} (Fx : fj_Fix X sc D ad cI cR A p R s m args c k cells slots) (he : fj_code k pc = some (.getstatic i, nx, tg, sw)) (hg : fj_go X (.getstatic i, nx, tg, sw) ls st M = some d) (hw : fj_Wd D ad cI cR A s M H locs) (hl : fj_has ad lsA (fj_nL k) ls) (hv : fj_vals sc ls st)
    (kk : ∀ (H' : Heap) (locs' : List Loc) (lsA' : Array Slot), fj_Wd D ad cI cR A s d.2.2.2 H' locs' → fj_has ad lsA' (fj_nL k) d.2.1 → fj_vals sc d.2.1 d.2.2.1 → W p l e R s m args below meth c H' locs' cells slots Q (F0 m d.1 lsA' (d.2.2.1.map (fj_vv ad)))) : W p l e R s m args below meth c H locs cells slots Q (F0 m pc lsA (st.map (fj_vv ad))) := by
  obtain ⟨hx, hb, hml, hown, hts, hK, hSt, hA, hsc, hR, hcs⟩ := Fx
  obtain ⟨hP, hD, hS⟩ := hw
  obtain ⟨hdec, hnx⟩ := fj_dc he rfl
  replace hnx : nx = pc + 3 := hnx
  subst hnx
  have hok := fj_dx he
  simp only [fj_okx, Bool.and_eq_true, decide_eq_true_eq] at hok
  obtain ⟨hi, hk⟩ := hok
  have hg := fj_sj (a := (pc + 3, ls, (.inr (tg, 0) :: st : List fj_V), M)) hg
  subst hg
  have hq := fj_sl_ok _ (fj_lk_mem hk)
  simp only [(fj_div (o := fj_ow k) hi).1, (fj_div (o := fj_ow k) hi).2] at hq
  rcases hq with ⟨h2, hq1⟩ | ⟨h2, hq1⟩
  · subst h2
    refine va_gets hx hb hSt.1 hS hown (hts _ hq1) (fun _ h9 => h9) hdec ?_
    exact kk H locs lsA ⟨hP, hD, hS⟩ hl ⟨hv.1, List.forall_mem_cons.mpr ⟨Or.inr (Or.inl rfl), hv.2⟩⟩
  · subst h2
    refine va_gets hx hb hSt.2.2.1 hS hown (hts _ hq1) (fun _ h9 => h9) hdec ?_
    exact kk H locs lsA ⟨hP, hD, hS⟩ hl ⟨hv.1, List.forall_mem_cons.mpr ⟨Or.inr (Or.inr (Or.inl rfl)), hv.2⟩⟩

theorem fj_g_iaload  (Fx : fj_Fix X sc D ad cI cR A p R s m args c k cells slots) (he : fj_code k pc = some (.iaload, nx, tg, sw)) (hg : fj_go X (.iaload, nx, tg, sw) ls st M = some d) (hw : fj_Wd D ad cI cR A s M H locs) (hl : fj_has ad lsA (fj_nL k) ls) (hv : fj_vals sc ls st)
    (kk : ∀ (H' : Heap) (locs' : List Loc) (lsA' : Array Slot), fj_Wd D ad cI cR A s d.2.2.2 H' locs' → fj_has ad lsA' (fj_nL k) d.2.1 → fj_vals sc d.2.1 d.2.2.1 → W p l e R s m args below meth c H' locs' cells slots Q (F0 m d.1 lsA' (d.2.2.1.map (fj_vv ad)))) : W p l e R s m args below meth c H locs cells slots Q (F0 m pc lsA (st.map (fj_vv ad))) := by
  obtain ⟨hx, hb, hml, hown, hts, hK, hSt, hA, hsc, hR, hcs⟩ := Fx
  obtain ⟨hP, hD, hS⟩ := hw
  obtain ⟨hdec, hnx⟩ := fj_dc he rfl
  replace hnx : nx = pc + 1 := hnx
  subst hnx
  rcases st with _ | ⟨x | r, _ | ⟨y | ⟨κ, a⟩, st⟩⟩
  · exact fj_nn hg
  · exact fj_nn hg
  · exact fj_nn hg
  rotate_left
  · exact fj_nn hg
  · exact fj_nn hg
  · exact fj_nn hg
  have hg : (match fj_ln X κ with
      | some n => if x < 0 ∨ n ≤ x.toNatClampNeg then none else some (pc + 1, ls, (.inl (fj_gt X M κ a x.toNatClampNeg) :: st : List fj_V), M)
      | none => none) = some d := hg
  obtain ⟨v1, v2⟩ := List.forall_mem_cons.mp (List.forall_mem_cons.mp hv.2).2
  cases hn : fj_ln X κ with
  | none => rw [hn] at hg; cases hg
  | some n =>
    rw [hn] at hg
    simp only at hg
    by_cases hin : x < 0 ∨ n ≤ x.toNatClampNeg
    · rw [if_pos hin] at hg; cases hg
    rw [if_neg hin] at hg
    have hg := fj_sj hg
    subst hg
    have hk2 := kk H locs lsA ⟨hP, hD, hS⟩ hl ⟨hv.1, List.forall_mem_cons.mpr ⟨trivial, v2⟩⟩
    rcases v1 with ⟨t, h1, h2⟩ | h1 | h1 | ⟨h1, h2⟩
    · have h1 : fj_lk κ fj_K = some t := h1
      have hs : κ < 40 := fj_K_small _ (fj_lk_mem h1)
      rw [fj_ln_small hs] at hn
      split at hn
      · rename_i n0 n1 b1 hK1
        have hn := fj_sj hn
        subst hn
        obtain ⟨p0, hp⟩ := fj_cell_at h1 h2
        have hws := fj_ws_at (ad := ad) (cI := cI) (cR := cR) (M := M) hp
        rw [fj_E_arr hK1] at hws
        refine va_iald hx hb hK hP p0 0 hws rfl hin hdec ?_
        have e : fj_gt X M κ a x.toNatClampNeg = fj_rd M κ a x.toNatClampNeg := fj_gt_small hs
        rw [← e]
        exact hk2
      · cases hn
    · cases h1
      have hn := fj_sj (a := 46) hn
      subst hn
      exact va_ti hx hb hSt.2.1 hS hin rfl hdec hk2
    · cases h1
      have hn := fj_sj (a := 46) hn
      subst hn
      exact va_ti hx hb hSt.2.2.2 hS hin rfl hdec hk2
    · cases h1
      have hn := fj_sj (a := X.1) hn
      subst hn
      obtain ⟨g1, g2, g3⟩ := hsc h2
      exact va_sld hx hb g1 g2 g3 hS hin hdec hk2

theorem fj_g_arraylength  (Fx : fj_Fix X sc D ad cI cR A p R s m args c k cells slots) (he : fj_code k pc = some (.arraylength, nx, tg, sw)) (hg : fj_go X (.arraylength, nx, tg, sw) ls st M = some d) (hw : fj_Wd D ad cI cR A s M H locs) (hl : fj_has ad lsA (fj_nL k) ls) (hv : fj_vals sc ls st)
    (kk : ∀ (H' : Heap) (locs' : List Loc) (lsA' : Array Slot), fj_Wd D ad cI cR A s d.2.2.2 H' locs' → fj_has ad lsA' (fj_nL k) d.2.1 → fj_vals sc d.2.1 d.2.2.1 → W p l e R s m args below meth c H' locs' cells slots Q (F0 m d.1 lsA' (d.2.2.1.map (fj_vv ad)))) : W p l e R s m args below meth c H locs cells slots Q (F0 m pc lsA (st.map (fj_vv ad))) := by
  obtain ⟨hx, hb, hml, hown, hts, hK, hSt, hA, hsc, hR, hcs⟩ := Fx
  obtain ⟨hP, hD, hS⟩ := hw
  obtain ⟨hdec, hnx⟩ := fj_dc he rfl
  replace hnx : nx = pc + 1 := hnx
  subst hnx
  rcases st with _ | ⟨x | ⟨κ, a⟩, st⟩
  · exact fj_nn hg
  · exact fj_nn hg
  have hg : (match fj_ln X κ with
      | some n => some (pc + 1, ls, (.inl (Int32.ofNat n) :: st : List fj_V), M)
      | none => none) = some d := hg
  obtain ⟨v1, v2⟩ := List.forall_mem_cons.mp hv.2
  cases hn : fj_ln X κ with
  | none => rw [hn] at hg; cases hg
  | some n =>
    rw [hn] at hg
    have hg := fj_sj hg
    subst hg
    have hk2 := kk H locs lsA ⟨hP, hD, hS⟩ hl ⟨hv.1, List.forall_mem_cons.mpr ⟨trivial, v2⟩⟩
    rcases v1 with ⟨t, h1, h2⟩ | h1 | h1 | ⟨h1, h2⟩
    · have h1 : fj_lk κ fj_K = some t := h1
      have hs : κ < 40 := fj_K_small _ (fj_lk_mem h1)
      rw [fj_ln_small hs] at hn
      split at hn
      · rename_i n0 n1 b1 hK1
        have hn := fj_sj hn
        subst hn
        obtain ⟨p0, hp⟩ := fj_cell_at h1 h2
        have hws := fj_ws_at (ad := ad) (cI := cI) (cR := cR) (M := M) hp
        rw [fj_E_arr hK1] at hws
        exact va_alen hx hb hK hP p0 0 hws rfl rfl hdec hk2
      · cases hn
    · cases h1
      have hn := fj_sj (a := 46) hn
      subst hn
      exact va_tlen hx hb hSt.2.1 hS rfl hdec hk2
    · cases h1
      have hn := fj_sj (a := 46) hn
      subst hn
      exact va_tlen hx hb hSt.2.2.2 hS rfl hdec hk2
    · cases h1
      have hn := fj_sj (a := X.1) hn
      subst hn
      obtain ⟨g1, g2, g3⟩ := hsc h2
      exact va_slen hx hb g1 g2 g3 hS hdec hk2

theorem fj_g_iastore  (Fx : fj_Fix X sc D ad cI cR A p R s m args c k cells slots) (he : fj_code k pc = some (.iastore, nx, tg, sw)) (hg : fj_go X (.iastore, nx, tg, sw) ls st M = some d) (hw : fj_Wd D ad cI cR A s M H locs) (hl : fj_has ad lsA (fj_nL k) ls) (hv : fj_vals sc ls st)
    (kk : ∀ (H' : Heap) (locs' : List Loc) (lsA' : Array Slot), fj_Wd D ad cI cR A s d.2.2.2 H' locs' → fj_has ad lsA' (fj_nL k) d.2.1 → fj_vals sc d.2.1 d.2.2.1 → W p l e R s m args below meth c H' locs' cells slots Q (F0 m d.1 lsA' (d.2.2.1.map (fj_vv ad)))) : W p l e R s m args below meth c H locs cells slots Q (F0 m pc lsA (st.map (fj_vv ad))) := by
  obtain ⟨hx, hb, hml, hown, hts, hK, hSt, hA, hsc, hR, hcs⟩ := Fx
  obtain ⟨hP, hD, hS⟩ := hw
  obtain ⟨hdec, hnx⟩ := fj_dc he rfl
  replace hnx : nx = pc + 1 := hnx
  subst hnx
  rcases st with _ | ⟨v | r, _ | ⟨x | r, _ | ⟨y | ⟨κ, a⟩, st⟩⟩⟩
  all_goals first | exact fj_nn hg | skip
  have hg : (match fj_lk κ fj_K with
      | some (_, 1, n, _) => if x < 0 ∨ n ≤ x.toNatClampNeg then none else some (pc + 1, ls, st, fj_up M κ a x.toNatClampNeg v)
      | _ => none) = some d := hg
  obtain ⟨v1, v2⟩ := List.forall_mem_cons.mp (List.forall_mem_cons.mp (List.forall_mem_cons.mp hv.2).2).2
  split at hg
  · rename_i n0 n b1 hK1
    by_cases hin : x < 0 ∨ n ≤ x.toNatClampNeg
    · rw [if_pos hin] at hg; cases hg
    rw [if_neg hin] at hg
    have hg := fj_sj hg
    subst hg
    obtain ⟨p0, hp⟩ := fj_cell_at hK1 (fj_val_in v1 hK1)
    have hws := fj_ws_at (ad := ad) (cI := cI) (cR := cR) (M := M) hp
    rw [fj_E_arr hK1] at hws
    refine va_iast hx hb hK hP hD hS p0 0 hws rfl hin hdec (fun H1 locs1 hP1 hD1 hS1 => ?_)
    rw [fj_ws_set hp (by rw [fj_E_arr hK1, fj_arr_upd])] at hP1 hD1
    exact kk H1 locs1 lsA ⟨hP1, hD1, hS1⟩ hl ⟨hv.1, v2⟩
  · cases hg

theorem fj_g_aaload  (Fx : fj_Fix X sc D ad cI cR A p R s m args c k cells slots) (he : fj_code k pc = some (.aaload, nx, tg, sw)) (hg : fj_go X (.aaload, nx, tg, sw) ls st M = some d) (hw : fj_Wd D ad cI cR A s M H locs) (hl : fj_has ad lsA (fj_nL k) ls) (hv : fj_vals sc ls st)
    (kk : ∀ (H' : Heap) (locs' : List Loc) (lsA' : Array Slot), fj_Wd D ad cI cR A s d.2.2.2 H' locs' → fj_has ad lsA' (fj_nL k) d.2.1 → fj_vals sc d.2.1 d.2.2.1 → W p l e R s m args below meth c H' locs' cells slots Q (F0 m d.1 lsA' (d.2.2.1.map (fj_vv ad)))) : W p l e R s m args below meth c H locs cells slots Q (F0 m pc lsA (st.map (fj_vv ad))) := by
  obtain ⟨hx, hb, hml, hown, hts, hK, hSt, hA, hsc, hR, hcs⟩ := Fx
  obtain ⟨hP, hD, hS⟩ := hw
  obtain ⟨hdec, hnx⟩ := fj_dc he rfl
  replace hnx : nx = pc + 1 := hnx
  subst hnx
  rcases st with _ | ⟨x | r, _ | ⟨y | ⟨κ, a⟩, st⟩⟩
  all_goals first | exact fj_nn hg | skip
  have hg : (match fj_lk κ fj_K with
      | some (_, 2, n, κ2) => if x < 0 ∨ n ≤ x.toNatClampNeg then none else some (pc + 1, ls, (.inr (κ2, x.toNatClampNeg) :: st : List fj_V), M)
      | _ => none) = some d := hg
  obtain ⟨v1, v2⟩ := List.forall_mem_cons.mp (List.forall_mem_cons.mp hv.2).2
  split at hg
  · rename_i n0 n κ2 hK1
    by_cases hin : x < 0 ∨ n ≤ x.toNatClampNeg
    · rw [if_pos hin] at hg; cases hg
    rw [if_neg hin] at hg
    have hg := fj_sj hg
    subst hg
    obtain ⟨p0, hp⟩ := fj_cell_at hK1 (fj_val_in v1 hK1)
    have hws := fj_ws_at (ad := ad) (cI := cI) (cR := cR) (M := M) hp
    rw [fj_E_ref hK1] at hws
    obtain ⟨hq1, hq2⟩ := fj_ref_ok _ (fj_lk_mem hK1) rfl
    have hlt : x.toNatClampNeg < n := Nat.not_le.mp fun q => hin (Or.inr q)
    have hval : fj_val sc (.inr (κ2, x.toNatClampNeg)) := by
      obtain ⟨t, ht, ht2⟩ := Option.map_eq_some_iff.mp hq1
      exact Or.inl ⟨t, ht, by rw [ht2]; exact hlt⟩
    have hk2 := kk H locs lsA ⟨hP, hD, hS⟩ hl ⟨hv.1, List.forall_mem_cons.mpr ⟨hval, v2⟩⟩
    rcases hq2 with h7 | h7
    · have h7 : κ2 = 7 := h7
      subst h7
      exact va_aldq hx hb hK hP p0 1 hws rfl hin hdec hk2
    · have h7 : κ2 = 10 := h7
      subst h7
      exact va_aldq hx hb hK hP p0 2 hws rfl hin hdec hk2
  · cases hg

theorem fj_g_tableswitch {df lo hi : Int} {offs : Array Int} (Fx : fj_Fix X sc D ad cI cR A p R s m args c k cells slots) (he : fj_code k pc = some (.tableswitch df lo hi offs, nx, tg, sw)) (hg : fj_go X (.tableswitch df lo hi offs, nx, tg, sw) ls st M = some d) (hw : fj_Wd D ad cI cR A s M H locs) (hl : fj_has ad lsA (fj_nL k) ls) (hv : fj_vals sc ls st)
    (kk : ∀ (H' : Heap) (locs' : List Loc) (lsA' : Array Slot), fj_Wd D ad cI cR A s d.2.2.2 H' locs' → fj_has ad lsA' (fj_nL k) d.2.1 → fj_vals sc d.2.1 d.2.2.1 → W p l e R s m args below meth c H' locs' cells slots Q (F0 m d.1 lsA' (d.2.2.1.map (fj_vv ad)))) : W p l e R s m args below meth c H locs cells slots Q (F0 m pc lsA (st.map (fj_vv ad))) := by
  obtain ⟨hx, hb, hml, hown, hts, hK, hSt, hA, hsc, hR, hcs⟩ := Fx
  obtain ⟨hP, hD, hS⟩ := hw
  have hok := fj_code_ok he
  simp only [fj_ok, Bool.and_eq_true, decide_eq_true_eq] at hok
  obtain ⟨⟨hdec, -⟩, hox⟩ := hok
  rcases st with _ | ⟨x | r, st⟩
  · exact fj_nn hg
  rotate_left
  · exact fj_nn hg
  have hg := fj_sj (a := (fj_sw tg sw x, ls, st, M)) hg
  subst hg
  have hk2 := kk H locs lsA ⟨hP, hD, hS⟩ hl ⟨hv.1, (List.forall_mem_cons.mp hv.2).2⟩
  simp only [fj_okx, Bool.and_eq_true, decide_eq_true_eq, List.all_eq_true] at hox
  obtain ⟨⟨h1, h2⟩, h3⟩ := hox
  rcases fj_sw_in (d := tg) (x := x) sw with ⟨i, q, g1, g2, g3⟩ | ⟨g1, g2⟩
  · have hil : i < sw.length := (List.getElem?_eq_some_iff.mp g1).1
    have h4 := h3 i (List.mem_range.mpr hil)
    rw [g1] at h4
    cases ho : offs[i]? with
    | none => rw [ho] at h4; cases h4
    | some off =>
      rw [ho] at h4
      simp only [Bool.and_eq_true, decide_eq_true_eq] at h4
      rw [g2] at h4
      refine lv_tableIn (off := off) (tgt := q.2) hx hb hdec (by omega) (by omega) (by rw [show (x.toInt - lo).toNat = i by omega]; exact ho) h4.2 ?_
      rw [← g3]
      exact hk2
  · refine lv_tableOut (tgt := tg) hx hb hdec ?_ h1 (by rw [← g2]; exact hk2)
    rcases Int.lt_or_le x.toInt lo with z | z
    · exact Or.inl z
    rcases Int.lt_or_le hi x.toInt with z2 | z2
    · exact Or.inr z2
    exfalso
    have hil : (x.toInt - lo).toNat < sw.length := by omega
    have h4 := h3 _ (List.mem_range.mpr hil)
    rw [List.getElem?_eq_getElem hil] at h4
    split at h4
    · rename_i s1 off e1 e2
      have e1 := fj_sj e1
      simp only [Bool.and_eq_true, decide_eq_true_eq] at h4
      refine g1 _ (List.getElem_mem hil) ?_
      rw [e1]
      apply Int32.toInt_inj.mp
      rw [h4.1]
      omega
    · cases h4

theorem fj_g_lookupswitch {df : Int} {pairs : Array (Int × Int)} (Fx : fj_Fix X sc D ad cI cR A p R s m args c k cells slots) (he : fj_code k pc = some (.lookupswitch df pairs, nx, tg, sw)) (hg : fj_go X (.lookupswitch df pairs, nx, tg, sw) ls st M = some d) (hw : fj_Wd D ad cI cR A s M H locs) (hl : fj_has ad lsA (fj_nL k) ls) (hv : fj_vals sc ls st)
    (kk : ∀ (H' : Heap) (locs' : List Loc) (lsA' : Array Slot), fj_Wd D ad cI cR A s d.2.2.2 H' locs' → fj_has ad lsA' (fj_nL k) d.2.1 → fj_vals sc d.2.1 d.2.2.1 → W p l e R s m args below meth c H' locs' cells slots Q (F0 m d.1 lsA' (d.2.2.1.map (fj_vv ad)))) : W p l e R s m args below meth c H locs cells slots Q (F0 m pc lsA (st.map (fj_vv ad))) := by
  obtain ⟨hx, hb, hml, hown, hts, hK, hSt, hA, hsc, hR, hcs⟩ := Fx
  obtain ⟨hP, hD, hS⟩ := hw
  have hok := fj_code_ok he
  simp only [fj_ok, Bool.and_eq_true, decide_eq_true_eq] at hok
  obtain ⟨⟨hdec, -⟩, hox⟩ := hok
  rcases st with _ | ⟨x | r, st⟩
  · exact fj_nn hg
  rotate_left
  · exact fj_nn hg
  have hg := fj_sj (a := (fj_sw tg sw x, ls, st, M)) hg
  subst hg
  have hk2 := kk H locs lsA ⟨hP, hD, hS⟩ hl ⟨hv.1, (List.forall_mem_cons.mp hv.2).2⟩
  simp only [fj_okx, Bool.and_eq_true, decide_eq_true_eq, List.all_eq_true] at hox
  obtain ⟨⟨⟨h1, h2⟩, h3⟩, h4⟩ := hox
  have h5 := fj_lks (x := x) h1 pairs.toList sw h3 (fun q hq => by
    have := h4 q hq
    simpa using this)
  refine lv_lookup (off := Op.lookupswitch.offset pairs.toList df x.toInt) (tgt := fj_sw tg sw x) hx hb hdec ?_ rfl h5 hk2
  rw [List.all_eq_true]
  intro z hz
  obtain ⟨z1, z2⟩ := z
  exact decide_eq_true (h2 _ hz)

theorem fj_g_invokestatic {i : Nat} (hlk : tg = 999) (hst : st.length ≤ 10) (Fx : fj_Fix X sc D ad cI cR A p R s m args c k cells slots) (he : fj_code k pc = some (.invokestatic i, nx, tg, sw)) (hg : fj_go X (.invokestatic i, nx, tg, sw) ls st M = some d) (hw : fj_Wd D ad cI cR A s M H locs) (hl : fj_has ad lsA (fj_nL k) ls) (hv : fj_vals sc ls st)
    (kk : ∀ (H' : Heap) (locs' : List Loc) (lsA' : Array Slot), fj_Wd D ad cI cR A s d.2.2.2 H' locs' → fj_has ad lsA' (fj_nL k) d.2.1 → fj_vals sc d.2.1 d.2.2.1 → W p l e R s m args below meth c H' locs' cells slots Q (F0 m d.1 lsA' (d.2.2.1.map (fj_vv ad)))) : W p l e R s m args below meth c H locs cells slots Q (F0 m pc lsA (st.map (fj_vv ad))) := by
  obtain ⟨hx, hb, hml, hown, hts, hK, hSt, hA, hsc, hR, hcs⟩ := Fx
  obtain ⟨hP, hD, hS⟩ := hw
  obtain ⟨hdec, hnx⟩ := fj_dc he rfl
  replace hnx : nx = pc + 3 := hnx
  subst hnx
  have hok := fj_dx he
  have htg : tg = 999 := hlk
  subst htg
  simp only [fj_okx, Bool.and_eq_true, decide_eq_true_eq] at hok
  obtain ⟨hi, hok⟩ := hok
  have hok : (decide (fj_ow k * 1000 + i = fj_min) && decide (1 ≤ fj_fr k) && decide (8 + 13 ≤ fj_lc k)) = true := hok
  simp only [Bool.and_eq_true, decide_eq_true_eq] at hok
  obtain ⟨⟨hmn, hfr⟩, hlc⟩ := hok
  rcases st with _ | ⟨y | r, _ | ⟨x | r2, st⟩⟩
  rotate_left 2
  · have hg := fj_sj (a := (pc + 3, ls, (.inl (if y < x then y else x) :: st : List fj_V), M)) hg
    subst hg
    have hk2 := kk H locs lsA ⟨hP, hD, hS⟩ hl ⟨hv.1, List.forall_mem_cons.mpr ⟨trivial, (List.forall_mem_cons.mp (List.forall_mem_cons.mp hv.2).2).2⟩⟩
    obtain ⟨w1, w2, w3, w4⟩ := fj_min_w
    have hd := fj_div (o := fj_ow k) hi
    rw [hmn] at hd
    rw [hd.1, hd.2] at w1
    have hcat := fj_catsum ad st
    have hst : st.length + 2 ≤ 10 := hst
    refine va_mmin hx hb (hml.trans hl.1.symm) hown (hts _ w1) (hts _ w2) (hts _ w3) (hts _ w4) (Nat.le_trans hfr hR.1) ?_ hcs.1 hcs.2 hdec hk2
    rw [hcat]
    have := hR.2
    omega
  all_goals exact fj_nn hg

end FJG
