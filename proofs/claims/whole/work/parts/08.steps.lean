/-! THE FLAT MACHINE'S INSTRUCTIONS ARE THE JVM'S -/
def fj_St (ad : Nat → Nat → Nat) (A : Nat → Prop) (U : State) (H : Heap) : Prop := va_Z RX2 "TAKES" "[I" (.ref (ad 40 0)) A U H ∧ va_T .int (ad 40 0) 46 (fun j => .int (fj_tk j)) A U H ∧ va_Z RX2 "GIVES" "[I" (.ref (ad 41 0)) A U H ∧ va_T .int (ad 41 0) 46 (fun j => .int (fj_gv j)) A U H
/-- what stays while a frame of method k runs -/
def fj_Fix (X : fj_X) (sc : Prop) (D : va_G) (ad : Nat → Nat → Nat) (cI : ClassId) (cR : Nat → ClassId) (A : Nat → Prop) (p : Program) (R : Room) (s : State) (m : MethodId) (args : Array Value) (c : Code) (k cells slots : Nat) : Prop :=
  p.tables.exec = Jvm.exec ∧ c.code = fj_b k ∧ c.maxLocals = fj_nL k ∧ s.vm.findClass (fj_Rn (fj_ow k)) = some m.cls ∧ (∀ w ∈ fj_tb, w.before args s = true) ∧ va_K D vwCl (fj_ty cI cR) s ∧ fj_St ad A s s.heap ∧ (∀ q : Nat, s.heap.size ≤ q → A q) ∧ (sc → va_X (ad 42 0) X.1 X.2 s s.heap ∧ ad 42 0 < s.heap.size ∧ ¬ A (ad 42 0)) ∧ (fj_fr k ≤ R.frames ∧ fj_lc k ≤ R.locals) ∧ (cells ≤ R.cells ∧ slots ≤ R.slots)
def fj_Wd (D : va_G) (ad : Nat → Nat → Nat) (cI : ClassId) (cR : Nat → ClassId) (A : Nat → Prop) (s : State) (M : fj_M) (H : Heap) (locs : List Loc) : Prop := va_P D vwCl (fj_ws ad cI cR M) H ∧ va_D A (fj_ws ad cI cR M) ∧ va_S A s.heap H locs
/-- what the tables say of an object's kind -/
theorem fj_objs {key κ j : Nat} (h : (key, κ, j) ∈ fj_fl) : ∃ (n ci : Nat) (C : String) (T : u_T) (N : Nat) (ty : Nat → FieldType), fj_lk κ fj_K = some (n, 0, ci, N) ∧ vwCl[ci]? = some (C, T, N) ∧ (∀ w ∈ u_ws C T N, w ∈ fj_tb) ∧ (∀ k, k < N → parseFieldDescriptor (T k).2.2.1 = some (ty k)) ∧ (∀ a, a < N → ∀ b, b < N → a ≠ b → (T a).2.1 ≠ (T b).2.1) ∧ j < N ∧ Cond.fieldLink (fj_Rn (key / 1000)) (key % 1000) (T j).1 (T j).2.1 (T j).2.2.1 ∈ fj_tb ∧ (fj_lk (κ * 100 + j) fj_F = none → (T j).2.2.2 = false ∧ parseFieldDescriptor (T j).2.2.1 = some .int) := by
  have key1 : ∀ (T : u_T) (N : Nat), fj_Tk κ = T → fj_flB κ T N (key, κ, j) = true → j < N ∧ Cond.fieldLink (fj_Rn (key / 1000)) (key % 1000) (T j).1 (T j).2.1 (T j).2.2.1 ∈ fj_tb ∧ (fj_lk (κ * 100 + j) fj_F = none → (T j).2.2.2 = false ∧ parseFieldDescriptor (T j).2.2.1 = some .int) := by
    intro T N hT hq
    have hw := fj_flw _ h
    simp only [hT] at hw
    have hb : Nat.beq κ κ = true := Nat.beq_refl κ
    simp only [fj_flB, hb, Bool.not_true, Bool.false_or, Bool.and_eq_true, Bool.or_eq_true, decide_eq_true_eq] at hq
    obtain ⟨h1, h3⟩ := hq
    refine ⟨h1, hw, fun h4 => ?_⟩
    rcases h3 with h3 | h3
    · rw [h4] at h3
      cases h3
    · exact h3
  rcases fj_fl_kinds _ h with h0 | h0 | h0 | h0
  · have h0 : κ = 0 := h0
    subst h0
    have hq := key1 TX5 14 rfl (List.all_eq_true.mp fj_fl0 _ h)
    exact ⟨1, 2, RX5, TX5, 14, tyX5, rfl, rfl, fj_lay5, tyX5_ok, nmX5, hq.1, hq.2.1, hq.2.2⟩
  · have h0 : κ = 7 := h0
    subst h0
    have hq := key1 TX4 12 rfl (List.all_eq_true.mp fj_fl7 _ h)
    exact ⟨12, 1, RX4, TX4, 12, tyX4, rfl, rfl, fj_lay4, tyX4_ok, nmX4, hq.1, hq.2.1, hq.2.2⟩
  · have h0 : κ = 10 := h0
    subst h0
    have hq := key1 TX0 3 rfl (List.all_eq_true.mp fj_fl10 _ h)
    exact ⟨6, 0, RX0, TX0, 3, tyX0, rfl, rfl, fj_lay0, tyX0_ok, nmX0, hq.1, hq.2.1, hq.2.2⟩
  · have h0 : κ = 20 := h0
    subst h0
    have hq := key1 TX6 28 rfl (List.all_eq_true.mp fj_fl20 _ h)
    exact ⟨1, 3, RX6, TX6, 28, tyX6, rfl, rfl, fj_lay6, tyX6_ok, nmX6, hq.1, hq.2.1, hq.2.2⟩
theorem fj_div {o i : Nat} (h : i < 1000) : (o * 1000 + i) / 1000 = o ∧ (o * 1000 + i) % 1000 = i := by omega
/-- a field that holds a reference: the kinds' numbers agree -/
theorem fj_F_ok : ∀ q ∈ fj_fl, ∀ κ2, fj_lk (q.2.1 * 100 + q.2.2) fj_F = some κ2 → (fj_lk κ2 fj_K).map (fun t => t.1) = (fj_lk q.2.1 fj_K).map (fun t => t.1) := by
  intro q hq κ2 h
  have h1 : fj_fl.all (fun q => match fj_lk (q.2.1 * 100 + q.2.2) fj_F with | some κ2 => decide ((fj_lk κ2 fj_K).map (fun t => t.1) = (fj_lk q.2.1 fj_K).map (fun t => t.1)) | none => true) = true := by decide +kernel
  have h2 := List.all_eq_true.mp h1 q hq
  rw [h] at h2
  exact of_decide_eq_true h2
theorem fj_ref_ok : ∀ q ∈ fj_K, q.2.2.1 = 2 → (fj_lk q.2.2.2.2 fj_K).map (fun t => t.1) = some q.2.2.2.1 ∧ (q.2.2.2.2 = 7 ∨ q.2.2.2.2 = 10) := by decide +kernel
theorem fj_K_small : ∀ q ∈ fj_K, q.1 < 40 := by decide +kernel
theorem fj_sw_in {d : Nat} {x : Int32} : ∀ (sw : List (Int32 × Nat)), (∃ (i : Nat) (q : Int32 × Nat), sw[i]? = some q ∧ q.1 = x ∧ fj_sw d sw x = q.2) ∨ ((∀ q ∈ sw, q.1 ≠ x) ∧ fj_sw d sw x = d)
  | [] => Or.inr ⟨fun q h => absurd h List.not_mem_nil, rfl⟩
  | q :: r => by
    by_cases h : x = q.1
    · exact Or.inl ⟨0, q, rfl, h.symm, by unfold fj_sw; rw [if_pos h]⟩
    · have e : fj_sw d (q :: r) x = fj_sw d r x := by
        show (if x = q.1 then q.2 else fj_sw d r x) = _
        rw [if_neg h]
      rcases fj_sw_in (d := d) (x := x) r with ⟨i, q2, h1, h2, h3⟩ | ⟨h1, h2⟩
      · exact Or.inl ⟨i + 1, q2, h1, h2, by rw [e]; exact h3⟩
      · exact Or.inr ⟨List.forall_mem_cons.mpr ⟨fun z => h z.symm, h1⟩, by rw [e]; exact h2⟩
section FJG
variable {X : fj_X} {sc : Prop} {D : va_G} {ad : Nat → Nat → Nat} {cI : ClassId} {cR : Nat → ClassId} {A : Nat → Prop} {p : Program} {l : Launch} {e : Env} {R : Room} {s : State} {m : MethodId} {args : Array Value} {below : List Frame} {meth : Method} {c : Code} {k cells slots : Nat} {Q : State → Prop}
variable {pc nx tg : Nat} {sw : List (Int32 × Nat)} {ls : fj_L} {st : List fj_V} {M : fj_M} {d : Nat × fj_L × List fj_V × fj_M} {H : Heap} {locs : List Loc} {lsA : Array Slot}
theorem fj_g_iadd  (Fx : fj_Fix X sc D ad cI cR A p R s m args c k cells slots) (he : fj_code k pc = some (.iadd, nx, tg, sw)) (hg : fj_go X (.iadd, nx, tg, sw) ls st M = some d) (hw : fj_Wd D ad cI cR A s M H locs) (hl : fj_has ad lsA (fj_nL k) ls) (hv : fj_vals sc ls st)
    (kk : ∀ (H' : Heap) (locs' : List Loc) (lsA' : Array Slot), fj_Wd D ad cI cR A s d.2.2.2 H' locs' → fj_has ad lsA' (fj_nL k) d.2.1 → fj_vals sc d.2.1 d.2.2.1 → W p l e R s m args below meth c H' locs' cells slots Q (F0 m d.1 lsA' (d.2.2.1.map (fj_vv ad)))) : W p l e R s m args below meth c H locs cells slots Q (F0 m pc lsA (st.map (fj_vv ad))) := by
  obtain ⟨hx, hb, hml, hown, hts, hK, hSt, hA, hsc, hR, hcs⟩ := Fx
  obtain ⟨hP, hD, hS⟩ := hw
  obtain ⟨hdec, hnx⟩ := fj_dc he rfl
  replace hnx : nx = pc + 1 := hnx
  subst hnx
  rcases st with _ | ⟨y | r, _ | ⟨x | r2, st⟩⟩
  all_goals try exact fj_nn hg
  have hg := fj_sj (a := (pc + 1, ls, (.inl (x + y) :: st : List fj_V), M)) hg
  subst hg
  refine lv_iadd hx hb hdec ?_
  exact kk H locs lsA ⟨hP, hD, hS⟩ hl ⟨hv.1, List.forall_mem_cons.mpr ⟨trivial, (List.forall_mem_cons.mp (List.forall_mem_cons.mp hv.2).2).2⟩⟩

theorem fj_g_isub  (Fx : fj_Fix X sc D ad cI cR A p R s m args c k cells slots) (he : fj_code k pc = some (.isub, nx, tg, sw)) (hg : fj_go X (.isub, nx, tg, sw) ls st M = some d) (hw : fj_Wd D ad cI cR A s M H locs) (hl : fj_has ad lsA (fj_nL k) ls) (hv : fj_vals sc ls st)
    (kk : ∀ (H' : Heap) (locs' : List Loc) (lsA' : Array Slot), fj_Wd D ad cI cR A s d.2.2.2 H' locs' → fj_has ad lsA' (fj_nL k) d.2.1 → fj_vals sc d.2.1 d.2.2.1 → W p l e R s m args below meth c H' locs' cells slots Q (F0 m d.1 lsA' (d.2.2.1.map (fj_vv ad)))) : W p l e R s m args below meth c H locs cells slots Q (F0 m pc lsA (st.map (fj_vv ad))) := by
  obtain ⟨hx, hb, hml, hown, hts, hK, hSt, hA, hsc, hR, hcs⟩ := Fx
  obtain ⟨hP, hD, hS⟩ := hw
  obtain ⟨hdec, hnx⟩ := fj_dc he rfl
  replace hnx : nx = pc + 1 := hnx
  subst hnx
  rcases st with _ | ⟨y | r, _ | ⟨x | r2, st⟩⟩
  all_goals try exact fj_nn hg
  have hg := fj_sj (a := (pc + 1, ls, (.inl (x - y) :: st : List fj_V), M)) hg
  subst hg
  refine lv_isub hx hb hdec ?_
  exact kk H locs lsA ⟨hP, hD, hS⟩ hl ⟨hv.1, List.forall_mem_cons.mpr ⟨trivial, (List.forall_mem_cons.mp (List.forall_mem_cons.mp hv.2).2).2⟩⟩

theorem fj_g_imul  (Fx : fj_Fix X sc D ad cI cR A p R s m args c k cells slots) (he : fj_code k pc = some (.imul, nx, tg, sw)) (hg : fj_go X (.imul, nx, tg, sw) ls st M = some d) (hw : fj_Wd D ad cI cR A s M H locs) (hl : fj_has ad lsA (fj_nL k) ls) (hv : fj_vals sc ls st)
    (kk : ∀ (H' : Heap) (locs' : List Loc) (lsA' : Array Slot), fj_Wd D ad cI cR A s d.2.2.2 H' locs' → fj_has ad lsA' (fj_nL k) d.2.1 → fj_vals sc d.2.1 d.2.2.1 → W p l e R s m args below meth c H' locs' cells slots Q (F0 m d.1 lsA' (d.2.2.1.map (fj_vv ad)))) : W p l e R s m args below meth c H locs cells slots Q (F0 m pc lsA (st.map (fj_vv ad))) := by
  obtain ⟨hx, hb, hml, hown, hts, hK, hSt, hA, hsc, hR, hcs⟩ := Fx
  obtain ⟨hP, hD, hS⟩ := hw
  obtain ⟨hdec, hnx⟩ := fj_dc he rfl
  replace hnx : nx = pc + 1 := hnx
  subst hnx
  rcases st with _ | ⟨y | r, _ | ⟨x | r2, st⟩⟩
  all_goals try exact fj_nn hg
  have hg := fj_sj (a := (pc + 1, ls, (.inl (x * y) :: st : List fj_V), M)) hg
  subst hg
  refine lv_imul hx hb hdec ?_
  exact kk H locs lsA ⟨hP, hD, hS⟩ hl ⟨hv.1, List.forall_mem_cons.mpr ⟨trivial, (List.forall_mem_cons.mp (List.forall_mem_cons.mp hv.2).2).2⟩⟩

theorem fj_g_iand  (Fx : fj_Fix X sc D ad cI cR A p R s m args c k cells slots) (he : fj_code k pc = some (.iand, nx, tg, sw)) (hg : fj_go X (.iand, nx, tg, sw) ls st M = some d) (hw : fj_Wd D ad cI cR A s M H locs) (hl : fj_has ad lsA (fj_nL k) ls) (hv : fj_vals sc ls st)
    (kk : ∀ (H' : Heap) (locs' : List Loc) (lsA' : Array Slot), fj_Wd D ad cI cR A s d.2.2.2 H' locs' → fj_has ad lsA' (fj_nL k) d.2.1 → fj_vals sc d.2.1 d.2.2.1 → W p l e R s m args below meth c H' locs' cells slots Q (F0 m d.1 lsA' (d.2.2.1.map (fj_vv ad)))) : W p l e R s m args below meth c H locs cells slots Q (F0 m pc lsA (st.map (fj_vv ad))) := by
  obtain ⟨hx, hb, hml, hown, hts, hK, hSt, hA, hsc, hR, hcs⟩ := Fx
  obtain ⟨hP, hD, hS⟩ := hw
  obtain ⟨hdec, hnx⟩ := fj_dc he rfl
  replace hnx : nx = pc + 1 := hnx
  subst hnx
  rcases st with _ | ⟨y | r, _ | ⟨x | r2, st⟩⟩
  all_goals try exact fj_nn hg
  have hg := fj_sj (a := (pc + 1, ls, (.inl (x &&& y) :: st : List fj_V), M)) hg
  subst hg
  refine lv_iand hx hb hdec ?_
  exact kk H locs lsA ⟨hP, hD, hS⟩ hl ⟨hv.1, List.forall_mem_cons.mpr ⟨trivial, (List.forall_mem_cons.mp (List.forall_mem_cons.mp hv.2).2).2⟩⟩

theorem fj_g_ior  (Fx : fj_Fix X sc D ad cI cR A p R s m args c k cells slots) (he : fj_code k pc = some (.ior, nx, tg, sw)) (hg : fj_go X (.ior, nx, tg, sw) ls st M = some d) (hw : fj_Wd D ad cI cR A s M H locs) (hl : fj_has ad lsA (fj_nL k) ls) (hv : fj_vals sc ls st)
    (kk : ∀ (H' : Heap) (locs' : List Loc) (lsA' : Array Slot), fj_Wd D ad cI cR A s d.2.2.2 H' locs' → fj_has ad lsA' (fj_nL k) d.2.1 → fj_vals sc d.2.1 d.2.2.1 → W p l e R s m args below meth c H' locs' cells slots Q (F0 m d.1 lsA' (d.2.2.1.map (fj_vv ad)))) : W p l e R s m args below meth c H locs cells slots Q (F0 m pc lsA (st.map (fj_vv ad))) := by
  obtain ⟨hx, hb, hml, hown, hts, hK, hSt, hA, hsc, hR, hcs⟩ := Fx
  obtain ⟨hP, hD, hS⟩ := hw
  obtain ⟨hdec, hnx⟩ := fj_dc he rfl
  replace hnx : nx = pc + 1 := hnx
  subst hnx
  rcases st with _ | ⟨y | r, _ | ⟨x | r2, st⟩⟩
  all_goals try exact fj_nn hg
  have hg := fj_sj (a := (pc + 1, ls, (.inl (x ||| y) :: st : List fj_V), M)) hg
  subst hg
  refine lv_ior hx hb hdec ?_
  exact kk H locs lsA ⟨hP, hD, hS⟩ hl ⟨hv.1, List.forall_mem_cons.mpr ⟨trivial, (List.forall_mem_cons.mp (List.forall_mem_cons.mp hv.2).2).2⟩⟩

theorem fj_g_ixor  (Fx : fj_Fix X sc D ad cI cR A p R s m args c k cells slots) (he : fj_code k pc = some (.ixor, nx, tg, sw)) (hg : fj_go X (.ixor, nx, tg, sw) ls st M = some d) (hw : fj_Wd D ad cI cR A s M H locs) (hl : fj_has ad lsA (fj_nL k) ls) (hv : fj_vals sc ls st)
    (kk : ∀ (H' : Heap) (locs' : List Loc) (lsA' : Array Slot), fj_Wd D ad cI cR A s d.2.2.2 H' locs' → fj_has ad lsA' (fj_nL k) d.2.1 → fj_vals sc d.2.1 d.2.2.1 → W p l e R s m args below meth c H' locs' cells slots Q (F0 m d.1 lsA' (d.2.2.1.map (fj_vv ad)))) : W p l e R s m args below meth c H locs cells slots Q (F0 m pc lsA (st.map (fj_vv ad))) := by
  obtain ⟨hx, hb, hml, hown, hts, hK, hSt, hA, hsc, hR, hcs⟩ := Fx
  obtain ⟨hP, hD, hS⟩ := hw
  obtain ⟨hdec, hnx⟩ := fj_dc he rfl
  replace hnx : nx = pc + 1 := hnx
  subst hnx
  rcases st with _ | ⟨y | r, _ | ⟨x | r2, st⟩⟩
  all_goals try exact fj_nn hg
  have hg := fj_sj (a := (pc + 1, ls, (.inl (x ^^^ y) :: st : List fj_V), M)) hg
  subst hg
  refine lv_ixor hx hb hdec ?_
  exact kk H locs lsA ⟨hP, hD, hS⟩ hl ⟨hv.1, List.forall_mem_cons.mpr ⟨trivial, (List.forall_mem_cons.mp (List.forall_mem_cons.mp hv.2).2).2⟩⟩

theorem fj_g_ishl  (Fx : fj_Fix X sc D ad cI cR A p R s m args c k cells slots) (he : fj_code k pc = some (.ishl, nx, tg, sw)) (hg : fj_go X (.ishl, nx, tg, sw) ls st M = some d) (hw : fj_Wd D ad cI cR A s M H locs) (hl : fj_has ad lsA (fj_nL k) ls) (hv : fj_vals sc ls st)
    (kk : ∀ (H' : Heap) (locs' : List Loc) (lsA' : Array Slot), fj_Wd D ad cI cR A s d.2.2.2 H' locs' → fj_has ad lsA' (fj_nL k) d.2.1 → fj_vals sc d.2.1 d.2.2.1 → W p l e R s m args below meth c H' locs' cells slots Q (F0 m d.1 lsA' (d.2.2.1.map (fj_vv ad)))) : W p l e R s m args below meth c H locs cells slots Q (F0 m pc lsA (st.map (fj_vv ad))) := by
  obtain ⟨hx, hb, hml, hown, hts, hK, hSt, hA, hsc, hR, hcs⟩ := Fx
  obtain ⟨hP, hD, hS⟩ := hw
  obtain ⟨hdec, hnx⟩ := fj_dc he rfl
  replace hnx : nx = pc + 1 := hnx
  subst hnx
  rcases st with _ | ⟨y | r, _ | ⟨x | r2, st⟩⟩
  all_goals try exact fj_nn hg
  have hg := fj_sj (a := (pc + 1, ls, (.inl (x <<< (y &&& 31)) :: st : List fj_V), M)) hg
  subst hg
  refine lv_ishl hx hb hdec ?_
  exact kk H locs lsA ⟨hP, hD, hS⟩ hl ⟨hv.1, List.forall_mem_cons.mpr ⟨trivial, (List.forall_mem_cons.mp (List.forall_mem_cons.mp hv.2).2).2⟩⟩

theorem fj_g_ishr  (Fx : fj_Fix X sc D ad cI cR A p R s m args c k cells slots) (he : fj_code k pc = some (.ishr, nx, tg, sw)) (hg : fj_go X (.ishr, nx, tg, sw) ls st M = some d) (hw : fj_Wd D ad cI cR A s M H locs) (hl : fj_has ad lsA (fj_nL k) ls) (hv : fj_vals sc ls st)
    (kk : ∀ (H' : Heap) (locs' : List Loc) (lsA' : Array Slot), fj_Wd D ad cI cR A s d.2.2.2 H' locs' → fj_has ad lsA' (fj_nL k) d.2.1 → fj_vals sc d.2.1 d.2.2.1 → W p l e R s m args below meth c H' locs' cells slots Q (F0 m d.1 lsA' (d.2.2.1.map (fj_vv ad)))) : W p l e R s m args below meth c H locs cells slots Q (F0 m pc lsA (st.map (fj_vv ad))) := by
  obtain ⟨hx, hb, hml, hown, hts, hK, hSt, hA, hsc, hR, hcs⟩ := Fx
  obtain ⟨hP, hD, hS⟩ := hw
  obtain ⟨hdec, hnx⟩ := fj_dc he rfl
  replace hnx : nx = pc + 1 := hnx
  subst hnx
  rcases st with _ | ⟨y | r, _ | ⟨x | r2, st⟩⟩
  all_goals try exact fj_nn hg
  have hg := fj_sj (a := (pc + 1, ls, (.inl (x >>> (y &&& 31)) :: st : List fj_V), M)) hg
  subst hg
  refine lv_ishr hx hb hdec ?_
  exact kk H locs lsA ⟨hP, hD, hS⟩ hl ⟨hv.1, List.forall_mem_cons.mpr ⟨trivial, (List.forall_mem_cons.mp (List.forall_mem_cons.mp hv.2).2).2⟩⟩

theorem fj_g_idiv  (Fx : fj_Fix X sc D ad cI cR A p R s m args c k cells slots) (he : fj_code k pc = some (.idiv, nx, tg, sw)) (hg : fj_go X (.idiv, nx, tg, sw) ls st M = some d) (hw : fj_Wd D ad cI cR A s M H locs) (hl : fj_has ad lsA (fj_nL k) ls) (hv : fj_vals sc ls st)
    (kk : ∀ (H' : Heap) (locs' : List Loc) (lsA' : Array Slot), fj_Wd D ad cI cR A s d.2.2.2 H' locs' → fj_has ad lsA' (fj_nL k) d.2.1 → fj_vals sc d.2.1 d.2.2.1 → W p l e R s m args below meth c H' locs' cells slots Q (F0 m d.1 lsA' (d.2.2.1.map (fj_vv ad)))) : W p l e R s m args below meth c H locs cells slots Q (F0 m pc lsA (st.map (fj_vv ad))) := by
  obtain ⟨hx, hb, hml, hown, hts, hK, hSt, hA, hsc, hR, hcs⟩ := Fx
  obtain ⟨hP, hD, hS⟩ := hw
  obtain ⟨hdec, hnx⟩ := fj_dc he rfl
  replace hnx : nx = pc + 1 := hnx
  subst hnx
  rcases st with _ | ⟨y | r, _ | ⟨x | r2, st⟩⟩
  all_goals try exact fj_nn hg
  by_cases hy : y = 0
  · have hg : (if y = 0 then none else some (pc + 1, ls, (.inl (x / y) :: st : List fj_V), M)) = some d := hg
    rw [if_pos hy] at hg
    cases hg
  have hg : (if y = 0 then none else some (pc + 1, ls, (.inl (x / y) :: st : List fj_V), M)) = some d := hg
  rw [if_neg hy] at hg
  have hg := fj_sj hg
  subst hg
  refine lv_idiv hx hb hdec hy ?_
  exact kk H locs lsA ⟨hP, hD, hS⟩ hl ⟨hv.1, List.forall_mem_cons.mpr ⟨trivial, (List.forall_mem_cons.mp (List.forall_mem_cons.mp hv.2).2).2⟩⟩

theorem fj_g_irem  (Fx : fj_Fix X sc D ad cI cR A p R s m args c k cells slots) (he : fj_code k pc = some (.irem, nx, tg, sw)) (hg : fj_go X (.irem, nx, tg, sw) ls st M = some d) (hw : fj_Wd D ad cI cR A s M H locs) (hl : fj_has ad lsA (fj_nL k) ls) (hv : fj_vals sc ls st)
    (kk : ∀ (H' : Heap) (locs' : List Loc) (lsA' : Array Slot), fj_Wd D ad cI cR A s d.2.2.2 H' locs' → fj_has ad lsA' (fj_nL k) d.2.1 → fj_vals sc d.2.1 d.2.2.1 → W p l e R s m args below meth c H' locs' cells slots Q (F0 m d.1 lsA' (d.2.2.1.map (fj_vv ad)))) : W p l e R s m args below meth c H locs cells slots Q (F0 m pc lsA (st.map (fj_vv ad))) := by
  obtain ⟨hx, hb, hml, hown, hts, hK, hSt, hA, hsc, hR, hcs⟩ := Fx
  obtain ⟨hP, hD, hS⟩ := hw
  obtain ⟨hdec, hnx⟩ := fj_dc he rfl
  replace hnx : nx = pc + 1 := hnx
  subst hnx
  rcases st with _ | ⟨y | r, _ | ⟨x | r2, st⟩⟩
  all_goals try exact fj_nn hg
  by_cases hy : y = 0
  · have hg : (if y = 0 then none else some (pc + 1, ls, (.inl (x - x / y * y) :: st : List fj_V), M)) = some d := hg
    rw [if_pos hy] at hg
    cases hg
  have hg : (if y = 0 then none else some (pc + 1, ls, (.inl (x - x / y * y) :: st : List fj_V), M)) = some d := hg
  rw [if_neg hy] at hg
  have hg := fj_sj hg
  subst hg
  refine lv_irem hx hb hdec hy ?_
  exact kk H locs lsA ⟨hP, hD, hS⟩ hl ⟨hv.1, List.forall_mem_cons.mpr ⟨trivial, (List.forall_mem_cons.mp (List.forall_mem_cons.mp hv.2).2).2⟩⟩

theorem fj_g_ineg  (Fx : fj_Fix X sc D ad cI cR A p R s m args c k cells slots) (he : fj_code k pc = some (.ineg, nx, tg, sw)) (hg : fj_go X (.ineg, nx, tg, sw) ls st M = some d) (hw : fj_Wd D ad cI cR A s M H locs) (hl : fj_has ad lsA (fj_nL k) ls) (hv : fj_vals sc ls st)
    (kk : ∀ (H' : Heap) (locs' : List Loc) (lsA' : Array Slot), fj_Wd D ad cI cR A s d.2.2.2 H' locs' → fj_has ad lsA' (fj_nL k) d.2.1 → fj_vals sc d.2.1 d.2.2.1 → W p l e R s m args below meth c H' locs' cells slots Q (F0 m d.1 lsA' (d.2.2.1.map (fj_vv ad)))) : W p l e R s m args below meth c H locs cells slots Q (F0 m pc lsA (st.map (fj_vv ad))) := by
  obtain ⟨hx, hb, hml, hown, hts, hK, hSt, hA, hsc, hR, hcs⟩ := Fx
  obtain ⟨hP, hD, hS⟩ := hw
  obtain ⟨hdec, hnx⟩ := fj_dc he rfl
  replace hnx : nx = pc + 1 := hnx
  subst hnx
  rcases st with _ | ⟨x | r, st⟩
  all_goals try exact fj_nn hg
  have hg := fj_sj (a := (pc + 1, ls, (.inl (-x) :: st : List fj_V), M)) hg
  subst hg
  refine lv_ineg hx hb hdec ?_
  exact kk H locs lsA ⟨hP, hD, hS⟩ hl ⟨hv.1, List.forall_mem_cons.mpr ⟨trivial, (List.forall_mem_cons.mp hv.2).2⟩⟩

theorem fj_g_iconst {n : Int} (Fx : fj_Fix X sc D ad cI cR A p R s m args c k cells slots) (he : fj_code k pc = some (.iconst n, nx, tg, sw)) (hg : fj_go X (.iconst n, nx, tg, sw) ls st M = some d) (hw : fj_Wd D ad cI cR A s M H locs) (hl : fj_has ad lsA (fj_nL k) ls) (hv : fj_vals sc ls st)
    (kk : ∀ (H' : Heap) (locs' : List Loc) (lsA' : Array Slot), fj_Wd D ad cI cR A s d.2.2.2 H' locs' → fj_has ad lsA' (fj_nL k) d.2.1 → fj_vals sc d.2.1 d.2.2.1 → W p l e R s m args below meth c H' locs' cells slots Q (F0 m d.1 lsA' (d.2.2.1.map (fj_vv ad)))) : W p l e R s m args below meth c H locs cells slots Q (F0 m pc lsA (st.map (fj_vv ad))) := by
  obtain ⟨hx, hb, hml, hown, hts, hK, hSt, hA, hsc, hR, hcs⟩ := Fx
  obtain ⟨hP, hD, hS⟩ := hw
  obtain ⟨hdec, hnx⟩ := fj_dc he rfl
  replace hnx : nx = pc + 1 := hnx
  subst hnx
  have hg := fj_sj (a := (pc + 1, ls, (.inl (Int32.ofInt n) :: st : List fj_V), M)) hg
  subst hg
  refine lv_iconst hx hb hdec rfl ?_
  exact kk H locs lsA ⟨hP, hD, hS⟩ hl ⟨hv.1, List.forall_mem_cons.mpr ⟨trivial, hv.2⟩⟩

theorem fj_g_bipush {n : Int} (Fx : fj_Fix X sc D ad cI cR A p R s m args c k cells slots) (he : fj_code k pc = some (.bipush n, nx, tg, sw)) (hg : fj_go X (.bipush n, nx, tg, sw) ls st M = some d) (hw : fj_Wd D ad cI cR A s M H locs) (hl : fj_has ad lsA (fj_nL k) ls) (hv : fj_vals sc ls st)
    (kk : ∀ (H' : Heap) (locs' : List Loc) (lsA' : Array Slot), fj_Wd D ad cI cR A s d.2.2.2 H' locs' → fj_has ad lsA' (fj_nL k) d.2.1 → fj_vals sc d.2.1 d.2.2.1 → W p l e R s m args below meth c H' locs' cells slots Q (F0 m d.1 lsA' (d.2.2.1.map (fj_vv ad)))) : W p l e R s m args below meth c H locs cells slots Q (F0 m pc lsA (st.map (fj_vv ad))) := by
  obtain ⟨hx, hb, hml, hown, hts, hK, hSt, hA, hsc, hR, hcs⟩ := Fx
  obtain ⟨hP, hD, hS⟩ := hw
  obtain ⟨hdec, hnx⟩ := fj_dc he rfl
  replace hnx : nx = pc + 2 := hnx
  subst hnx
  have hg := fj_sj (a := (pc + 2, ls, (.inl ((Int8.ofInt n).toInt32) :: st : List fj_V), M)) hg
  subst hg
  refine lv_bipush hx hb hdec rfl ?_
  exact kk H locs lsA ⟨hP, hD, hS⟩ hl ⟨hv.1, List.forall_mem_cons.mpr ⟨trivial, hv.2⟩⟩

theorem fj_g_sipush {n : Int} (Fx : fj_Fix X sc D ad cI cR A p R s m args c k cells slots) (he : fj_code k pc = some (.sipush n, nx, tg, sw)) (hg : fj_go X (.sipush n, nx, tg, sw) ls st M = some d) (hw : fj_Wd D ad cI cR A s M H locs) (hl : fj_has ad lsA (fj_nL k) ls) (hv : fj_vals sc ls st)
    (kk : ∀ (H' : Heap) (locs' : List Loc) (lsA' : Array Slot), fj_Wd D ad cI cR A s d.2.2.2 H' locs' → fj_has ad lsA' (fj_nL k) d.2.1 → fj_vals sc d.2.1 d.2.2.1 → W p l e R s m args below meth c H' locs' cells slots Q (F0 m d.1 lsA' (d.2.2.1.map (fj_vv ad)))) : W p l e R s m args below meth c H locs cells slots Q (F0 m pc lsA (st.map (fj_vv ad))) := by
  obtain ⟨hx, hb, hml, hown, hts, hK, hSt, hA, hsc, hR, hcs⟩ := Fx
  obtain ⟨hP, hD, hS⟩ := hw
  obtain ⟨hdec, hnx⟩ := fj_dc he rfl
  replace hnx : nx = pc + 3 := hnx
  subst hnx
  have hg := fj_sj (a := (pc + 3, ls, (.inl ((Int16.ofInt n).toInt32) :: st : List fj_V), M)) hg
  subst hg
  refine lv_sipush hx hb hdec rfl ?_
  exact kk H locs lsA ⟨hP, hD, hS⟩ hl ⟨hv.1, List.forall_mem_cons.mpr ⟨trivial, hv.2⟩⟩

theorem fj_g_ldc {i : Nat} (Fx : fj_Fix X sc D ad cI cR A p R s m args c k cells slots) (he : fj_code k pc = some (.ldc i, nx, tg, sw)) (hg : fj_go X (.ldc i, nx, tg, sw) ls st M = some d) (hw : fj_Wd D ad cI cR A s M H locs) (hl : fj_has ad lsA (fj_nL k) ls) (hv : fj_vals sc ls st)
    (kk : ∀ (H' : Heap) (locs' : List Loc) (lsA' : Array Slot), fj_Wd D ad cI cR A s d.2.2.2 H' locs' → fj_has ad lsA' (fj_nL k) d.2.1 → fj_vals sc d.2.1 d.2.2.1 → W p l e R s m args below meth c H' locs' cells slots Q (F0 m d.1 lsA' (d.2.2.1.map (fj_vv ad)))) : W p l e R s m args below meth c H locs cells slots Q (F0 m pc lsA (st.map (fj_vv ad))) := by
  obtain ⟨hx, hb, hml, hown, hts, hK, hSt, hA, hsc, hR, hcs⟩ := Fx
  obtain ⟨hP, hD, hS⟩ := hw
  obtain ⟨hdec, hnx⟩ := fj_dc he rfl
  replace hnx : nx = pc + 2 := hnx
  subst hnx
  have hok := fj_dx he
  simp only [fj_okx, Bool.and_eq_true, decide_eq_true_eq] at hok
  obtain ⟨hi, hk0⟩ := hok
  obtain ⟨v, hk, hsw⟩ := Option.map_eq_some_iff.mp hk0
  have hsw : [(v, 0)] = sw := hsw
  subst hsw
  have hg := fj_sj (a := (pc + 2, ls, (.inl v :: st : List fj_V), M)) hg
  subst hg
  have hq := fj_con_ok _ (fj_lk_mem hk)
  simp only [(fj_div (o := fj_ow k) hi).1, (fj_div (o := fj_ow k) hi).2] at hq
  refine lv_ldc hx hb hown (hts _ hq) hdec ?_
  exact kk H locs lsA ⟨hP, hD, hS⟩ hl ⟨hv.1, List.forall_mem_cons.mpr ⟨trivial, hv.2⟩⟩

theorem fj_g_ldc_w {i : Nat} (Fx : fj_Fix X sc D ad cI cR A p R s m args c k cells slots) (he : fj_code k pc = some (.ldc_w i, nx, tg, sw)) (hg : fj_go X (.ldc_w i, nx, tg, sw) ls st M = some d) (hw : fj_Wd D ad cI cR A s M H locs) (hl : fj_has ad lsA (fj_nL k) ls) (hv : fj_vals sc ls st)
    (kk : ∀ (H' : Heap) (locs' : List Loc) (lsA' : Array Slot), fj_Wd D ad cI cR A s d.2.2.2 H' locs' → fj_has ad lsA' (fj_nL k) d.2.1 → fj_vals sc d.2.1 d.2.2.1 → W p l e R s m args below meth c H' locs' cells slots Q (F0 m d.1 lsA' (d.2.2.1.map (fj_vv ad)))) : W p l e R s m args below meth c H locs cells slots Q (F0 m pc lsA (st.map (fj_vv ad))) := by
  obtain ⟨hx, hb, hml, hown, hts, hK, hSt, hA, hsc, hR, hcs⟩ := Fx
  obtain ⟨hP, hD, hS⟩ := hw
  obtain ⟨hdec, hnx⟩ := fj_dc he rfl
  replace hnx : nx = pc + 3 := hnx
  subst hnx
  have hok := fj_dx he
  simp only [fj_okx, Bool.and_eq_true, decide_eq_true_eq] at hok
  obtain ⟨hi, hk0⟩ := hok
  obtain ⟨v, hk, hsw⟩ := Option.map_eq_some_iff.mp hk0
  have hsw : [(v, 0)] = sw := hsw
  subst hsw
  have hg := fj_sj (a := (pc + 3, ls, (.inl v :: st : List fj_V), M)) hg
  subst hg
  have hq := fj_con_ok _ (fj_lk_mem hk)
  simp only [(fj_div (o := fj_ow k) hi).1, (fj_div (o := fj_ow k) hi).2] at hq
  refine lv_ldcw hx hb hown (hts _ hq) hdec ?_
  exact kk H locs lsA ⟨hP, hD, hS⟩ hl ⟨hv.1, List.forall_mem_cons.mpr ⟨trivial, hv.2⟩⟩

theorem fj_g_iload_n {i : Fin 4} (Fx : fj_Fix X sc D ad cI cR A p R s m args c k cells slots) (he : fj_code k pc = some (.iload_n i, nx, tg, sw)) (hg : fj_go X (.iload_n i, nx, tg, sw) ls st M = some d) (hw : fj_Wd D ad cI cR A s M H locs) (hl : fj_has ad lsA (fj_nL k) ls) (hv : fj_vals sc ls st)
    (kk : ∀ (H' : Heap) (locs' : List Loc) (lsA' : Array Slot), fj_Wd D ad cI cR A s d.2.2.2 H' locs' → fj_has ad lsA' (fj_nL k) d.2.1 → fj_vals sc d.2.1 d.2.2.1 → W p l e R s m args below meth c H' locs' cells slots Q (F0 m d.1 lsA' (d.2.2.1.map (fj_vv ad)))) : W p l e R s m args below meth c H locs cells slots Q (F0 m pc lsA (st.map (fj_vv ad))) := by
  obtain ⟨hx, hb, hml, hown, hts, hK, hSt, hA, hsc, hR, hcs⟩ := Fx
  obtain ⟨hP, hD, hS⟩ := hw
  obtain ⟨hdec, hnx⟩ := fj_dc he rfl
  replace hnx : nx = pc + 1 := hnx
  subst hnx
  have hg : (match ls[(i : Nat)]? with | some (some (.inl x)) => some (pc + 1, ls, (.inl x :: st : List fj_V), M) | _ => none) = some d := hg
  cases hc : ls[(i : Nat)]? with
  | none => rw [hc] at hg; cases hg
  | some w =>
    rw [hc] at hg
    rcases w with _ | x | x
    all_goals try exact fj_nn hg
    have hg := fj_sj hg
    subst hg
    refine lv_iload_n hx hb hdec rfl (hl.2.2.2 _ _ hc) ?_
    exact kk H locs lsA ⟨hP, hD, hS⟩ hl ⟨hv.1, List.forall_mem_cons.mpr ⟨hv.1 _ _ hc, hv.2⟩⟩

theorem fj_g_iload {i : Nat} (Fx : fj_Fix X sc D ad cI cR A p R s m args c k cells slots) (he : fj_code k pc = some (.iload i, nx, tg, sw)) (hg : fj_go X (.iload i, nx, tg, sw) ls st M = some d) (hw : fj_Wd D ad cI cR A s M H locs) (hl : fj_has ad lsA (fj_nL k) ls) (hv : fj_vals sc ls st)
    (kk : ∀ (H' : Heap) (locs' : List Loc) (lsA' : Array Slot), fj_Wd D ad cI cR A s d.2.2.2 H' locs' → fj_has ad lsA' (fj_nL k) d.2.1 → fj_vals sc d.2.1 d.2.2.1 → W p l e R s m args below meth c H' locs' cells slots Q (F0 m d.1 lsA' (d.2.2.1.map (fj_vv ad)))) : W p l e R s m args below meth c H locs cells slots Q (F0 m pc lsA (st.map (fj_vv ad))) := by
  obtain ⟨hx, hb, hml, hown, hts, hK, hSt, hA, hsc, hR, hcs⟩ := Fx
  obtain ⟨hP, hD, hS⟩ := hw
  obtain ⟨hdec, hnx⟩ := fj_dc he rfl
  replace hnx : nx = pc + 2 := hnx
  subst hnx
  have hg : (match ls[i]? with | some (some (.inl x)) => some (pc + 2, ls, (.inl x :: st : List fj_V), M) | _ => none) = some d := hg
  cases hc : ls[i]? with
  | none => rw [hc] at hg; cases hg
  | some w =>
    rw [hc] at hg
    rcases w with _ | x | x
    all_goals try exact fj_nn hg
    have hg := fj_sj hg
    subst hg
    refine lv_iload hx hb hdec (hl.2.2.2 _ _ hc) ?_
    exact kk H locs lsA ⟨hP, hD, hS⟩ hl ⟨hv.1, List.forall_mem_cons.mpr ⟨hv.1 _ _ hc, hv.2⟩⟩

theorem fj_g_aload_n {i : Fin 4} (Fx : fj_Fix X sc D ad cI cR A p R s m args c k cells slots) (he : fj_code k pc = some (.aload_n i, nx, tg, sw)) (hg : fj_go X (.aload_n i, nx, tg, sw) ls st M = some d) (hw : fj_Wd D ad cI cR A s M H locs) (hl : fj_has ad lsA (fj_nL k) ls) (hv : fj_vals sc ls st)
    (kk : ∀ (H' : Heap) (locs' : List Loc) (lsA' : Array Slot), fj_Wd D ad cI cR A s d.2.2.2 H' locs' → fj_has ad lsA' (fj_nL k) d.2.1 → fj_vals sc d.2.1 d.2.2.1 → W p l e R s m args below meth c H' locs' cells slots Q (F0 m d.1 lsA' (d.2.2.1.map (fj_vv ad)))) : W p l e R s m args below meth c H locs cells slots Q (F0 m pc lsA (st.map (fj_vv ad))) := by
  obtain ⟨hx, hb, hml, hown, hts, hK, hSt, hA, hsc, hR, hcs⟩ := Fx
  obtain ⟨hP, hD, hS⟩ := hw
  obtain ⟨hdec, hnx⟩ := fj_dc he rfl
  replace hnx : nx = pc + 1 := hnx
  subst hnx
  have hg : (match ls[(i : Nat)]? with | some (some (.inr x)) => some (pc + 1, ls, (.inr x :: st : List fj_V), M) | _ => none) = some d := hg
  cases hc : ls[(i : Nat)]? with
  | none => rw [hc] at hg; cases hg
  | some w =>
    rw [hc] at hg
    rcases w with _ | x | x
    all_goals try exact fj_nn hg
    have hg := fj_sj hg
    subst hg
    refine lv_aload_n hx hb hdec rfl (hl.2.2.2 _ _ hc) ?_
    exact kk H locs lsA ⟨hP, hD, hS⟩ hl ⟨hv.1, List.forall_mem_cons.mpr ⟨hv.1 _ _ hc, hv.2⟩⟩

theorem fj_g_istore_n {i : Fin 4} (Fx : fj_Fix X sc D ad cI cR A p R s m args c k cells slots) (he : fj_code k pc = some (.istore_n i, nx, tg, sw)) (hg : fj_go X (.istore_n i, nx, tg, sw) ls st M = some d) (hw : fj_Wd D ad cI cR A s M H locs) (hl : fj_has ad lsA (fj_nL k) ls) (hv : fj_vals sc ls st)
    (kk : ∀ (H' : Heap) (locs' : List Loc) (lsA' : Array Slot), fj_Wd D ad cI cR A s d.2.2.2 H' locs' → fj_has ad lsA' (fj_nL k) d.2.1 → fj_vals sc d.2.1 d.2.2.1 → W p l e R s m args below meth c H' locs' cells slots Q (F0 m d.1 lsA' (d.2.2.1.map (fj_vv ad)))) : W p l e R s m args below meth c H locs cells slots Q (F0 m pc lsA (st.map (fj_vv ad))) := by
  obtain ⟨hx, hb, hml, hown, hts, hK, hSt, hA, hsc, hR, hcs⟩ := Fx
  obtain ⟨hP, hD, hS⟩ := hw
  obtain ⟨hdec, hnx⟩ := fj_dc he rfl
  replace hnx : nx = pc + 1 := hnx
  subst hnx
  have hi : (i : Nat) < fj_nL k := of_decide_eq_true (fj_dx he)
  rcases st with _ | ⟨x | x, st⟩
  all_goals try exact fj_nn hg
  have hg := fj_sj (a := (pc + 1, ls.set (i : Nat) (some (.inl x)), st, M)) hg
  subst hg
  refine lv_istore_n hx hb hdec rfl hl.lv hi rfl (fun lsB hB => ?_)
  exact kk H locs lsB ⟨hP, hD, hS⟩ (hl.set (v := .inl x) hB) (hv.set (List.forall_mem_cons.mp hv.2).1 (List.forall_mem_cons.mp hv.2).2)

theorem fj_g_istore {i : Nat} (Fx : fj_Fix X sc D ad cI cR A p R s m args c k cells slots) (he : fj_code k pc = some (.istore i, nx, tg, sw)) (hg : fj_go X (.istore i, nx, tg, sw) ls st M = some d) (hw : fj_Wd D ad cI cR A s M H locs) (hl : fj_has ad lsA (fj_nL k) ls) (hv : fj_vals sc ls st)
    (kk : ∀ (H' : Heap) (locs' : List Loc) (lsA' : Array Slot), fj_Wd D ad cI cR A s d.2.2.2 H' locs' → fj_has ad lsA' (fj_nL k) d.2.1 → fj_vals sc d.2.1 d.2.2.1 → W p l e R s m args below meth c H' locs' cells slots Q (F0 m d.1 lsA' (d.2.2.1.map (fj_vv ad)))) : W p l e R s m args below meth c H locs cells slots Q (F0 m pc lsA (st.map (fj_vv ad))) := by
  obtain ⟨hx, hb, hml, hown, hts, hK, hSt, hA, hsc, hR, hcs⟩ := Fx
  obtain ⟨hP, hD, hS⟩ := hw
  obtain ⟨hdec, hnx⟩ := fj_dc he rfl
  replace hnx : nx = pc + 2 := hnx
  subst hnx
  have hi : i < fj_nL k := of_decide_eq_true (fj_dx he)
  rcases st with _ | ⟨x | x, st⟩
  all_goals try exact fj_nn hg
  have hg := fj_sj (a := (pc + 2, ls.set i (some (.inl x)), st, M)) hg
  subst hg
  refine lv_istore hx hb hdec hl.lv hi rfl (fun lsB hB => ?_)
  exact kk H locs lsB ⟨hP, hD, hS⟩ (hl.set (v := .inl x) hB) (hv.set (List.forall_mem_cons.mp hv.2).1 (List.forall_mem_cons.mp hv.2).2)

theorem fj_g_astore_n {i : Fin 4} (Fx : fj_Fix X sc D ad cI cR A p R s m args c k cells slots) (he : fj_code k pc = some (.astore_n i, nx, tg, sw)) (hg : fj_go X (.astore_n i, nx, tg, sw) ls st M = some d) (hw : fj_Wd D ad cI cR A s M H locs) (hl : fj_has ad lsA (fj_nL k) ls) (hv : fj_vals sc ls st)
    (kk : ∀ (H' : Heap) (locs' : List Loc) (lsA' : Array Slot), fj_Wd D ad cI cR A s d.2.2.2 H' locs' → fj_has ad lsA' (fj_nL k) d.2.1 → fj_vals sc d.2.1 d.2.2.1 → W p l e R s m args below meth c H' locs' cells slots Q (F0 m d.1 lsA' (d.2.2.1.map (fj_vv ad)))) : W p l e R s m args below meth c H locs cells slots Q (F0 m pc lsA (st.map (fj_vv ad))) := by
  obtain ⟨hx, hb, hml, hown, hts, hK, hSt, hA, hsc, hR, hcs⟩ := Fx
  obtain ⟨hP, hD, hS⟩ := hw
  obtain ⟨hdec, hnx⟩ := fj_dc he rfl
  replace hnx : nx = pc + 1 := hnx
  subst hnx
  have hi : (i : Nat) < fj_nL k := of_decide_eq_true (fj_dx he)
  rcases st with _ | ⟨x | x, st⟩
  all_goals try exact fj_nn hg
  have hg := fj_sj (a := (pc + 1, ls.set (i : Nat) (some (.inr x)), st, M)) hg
  subst hg
  refine lv_astore_n hx hb hdec rfl hl.lv hi rfl (fun lsB hB => ?_)
  exact kk H locs lsB ⟨hP, hD, hS⟩ (hl.set (v := .inr x) hB) (hv.set (List.forall_mem_cons.mp hv.2).1 (List.forall_mem_cons.mp hv.2).2)

theorem fj_g_iinc {i : Nat} {n : Int} (Fx : fj_Fix X sc D ad cI cR A p R s m args c k cells slots) (he : fj_code k pc = some (.iinc i n, nx, tg, sw)) (hg : fj_go X (.iinc i n, nx, tg, sw) ls st M = some d) (hw : fj_Wd D ad cI cR A s M H locs) (hl : fj_has ad lsA (fj_nL k) ls) (hv : fj_vals sc ls st)
    (kk : ∀ (H' : Heap) (locs' : List Loc) (lsA' : Array Slot), fj_Wd D ad cI cR A s d.2.2.2 H' locs' → fj_has ad lsA' (fj_nL k) d.2.1 → fj_vals sc d.2.1 d.2.2.1 → W p l e R s m args below meth c H' locs' cells slots Q (F0 m d.1 lsA' (d.2.2.1.map (fj_vv ad)))) : W p l e R s m args below meth c H locs cells slots Q (F0 m pc lsA (st.map (fj_vv ad))) := by
  obtain ⟨hx, hb, hml, hown, hts, hK, hSt, hA, hsc, hR, hcs⟩ := Fx
  obtain ⟨hP, hD, hS⟩ := hw
  obtain ⟨hdec, hnx⟩ := fj_dc he rfl
  replace hnx : nx = pc + 3 := hnx
  subst hnx
  have hi : i < fj_nL k := of_decide_eq_true (fj_dx he)
  have hg : (match ls[i]? with | some (some (.inl x)) => some (pc + 3, ls.set i (some (.inl (x + Int32.ofInt n))), st, M) | _ => none) = some d := hg
  cases hc : ls[i]? with
  | none => rw [hc] at hg; cases hg
  | some w =>
    rw [hc] at hg
    rcases w with _ | x | x
    all_goals try exact fj_nn hg
    have hg := fj_sj hg
    subst hg
    obtain ⟨q, hq⟩ := List.getElem?_of_mem (fj_prs_mem (ad := ad) (ls := ls) (q := (i, .int x)).mpr ⟨.inl x, hc, rfl⟩)
    refine lv_iinc hx hb hdec hl.lv hq rfl hi rfl (fun lsB hB => ?_)
    exact kk H locs lsB ⟨hP, hD, hS⟩ (hl.set (v := .inl (x + Int32.ofInt n)) hB) (hv.set trivial hv.2)

theorem fj_g_dup  (Fx : fj_Fix X sc D ad cI cR A p R s m args c k cells slots) (he : fj_code k pc = some (.dup, nx, tg, sw)) (hg : fj_go X (.dup, nx, tg, sw) ls st M = some d) (hw : fj_Wd D ad cI cR A s M H locs) (hl : fj_has ad lsA (fj_nL k) ls) (hv : fj_vals sc ls st)
    (kk : ∀ (H' : Heap) (locs' : List Loc) (lsA' : Array Slot), fj_Wd D ad cI cR A s d.2.2.2 H' locs' → fj_has ad lsA' (fj_nL k) d.2.1 → fj_vals sc d.2.1 d.2.2.1 → W p l e R s m args below meth c H' locs' cells slots Q (F0 m d.1 lsA' (d.2.2.1.map (fj_vv ad)))) : W p l e R s m args below meth c H locs cells slots Q (F0 m pc lsA (st.map (fj_vv ad))) := by
  obtain ⟨hx, hb, hml, hown, hts, hK, hSt, hA, hsc, hR, hcs⟩ := Fx
  obtain ⟨hP, hD, hS⟩ := hw
  obtain ⟨hdec, hnx⟩ := fj_dc he rfl
  replace hnx : nx = pc + 1 := hnx
  subst hnx
  rcases st with _ | ⟨x, st⟩
  all_goals try exact fj_nn hg
  have hg := fj_sj (a := (pc + 1, ls, x :: x :: st, M)) hg
  subst hg
  refine lv_dup hx hb hdec (fj_vv_cat ad x) ?_
  exact kk H locs lsA ⟨hP, hD, hS⟩ hl ⟨hv.1, List.forall_mem_cons.mpr ⟨(List.forall_mem_cons.mp hv.2).1, hv.2⟩⟩

theorem fj_g_pop  (Fx : fj_Fix X sc D ad cI cR A p R s m args c k cells slots) (he : fj_code k pc = some (.pop, nx, tg, sw)) (hg : fj_go X (.pop, nx, tg, sw) ls st M = some d) (hw : fj_Wd D ad cI cR A s M H locs) (hl : fj_has ad lsA (fj_nL k) ls) (hv : fj_vals sc ls st)
    (kk : ∀ (H' : Heap) (locs' : List Loc) (lsA' : Array Slot), fj_Wd D ad cI cR A s d.2.2.2 H' locs' → fj_has ad lsA' (fj_nL k) d.2.1 → fj_vals sc d.2.1 d.2.2.1 → W p l e R s m args below meth c H' locs' cells slots Q (F0 m d.1 lsA' (d.2.2.1.map (fj_vv ad)))) : W p l e R s m args below meth c H locs cells slots Q (F0 m pc lsA (st.map (fj_vv ad))) := by
  obtain ⟨hx, hb, hml, hown, hts, hK, hSt, hA, hsc, hR, hcs⟩ := Fx
  obtain ⟨hP, hD, hS⟩ := hw
  obtain ⟨hdec, hnx⟩ := fj_dc he rfl
  replace hnx : nx = pc + 1 := hnx
  subst hnx
  rcases st with _ | ⟨x, st⟩
  all_goals try exact fj_nn hg
  have hg := fj_sj (a := (pc + 1, ls, st, M)) hg
  subst hg
  refine lv_pop hx hb hdec (fj_vv_cat ad x) ?_
  exact kk H locs lsA ⟨hP, hD, hS⟩ hl ⟨hv.1, (List.forall_mem_cons.mp hv.2).2⟩

theorem fj_g_dup2  (Fx : fj_Fix X sc D ad cI cR A p R s m args c k cells slots) (he : fj_code k pc = some (.dup2, nx, tg, sw)) (hg : fj_go X (.dup2, nx, tg, sw) ls st M = some d) (hw : fj_Wd D ad cI cR A s M H locs) (hl : fj_has ad lsA (fj_nL k) ls) (hv : fj_vals sc ls st)
    (kk : ∀ (H' : Heap) (locs' : List Loc) (lsA' : Array Slot), fj_Wd D ad cI cR A s d.2.2.2 H' locs' → fj_has ad lsA' (fj_nL k) d.2.1 → fj_vals sc d.2.1 d.2.2.1 → W p l e R s m args below meth c H' locs' cells slots Q (F0 m d.1 lsA' (d.2.2.1.map (fj_vv ad)))) : W p l e R s m args below meth c H locs cells slots Q (F0 m pc lsA (st.map (fj_vv ad))) := by
  obtain ⟨hx, hb, hml, hown, hts, hK, hSt, hA, hsc, hR, hcs⟩ := Fx
  obtain ⟨hP, hD, hS⟩ := hw
  obtain ⟨hdec, hnx⟩ := fj_dc he rfl
  replace hnx : nx = pc + 1 := hnx
  subst hnx
  rcases st with _ | ⟨x, _ | ⟨y, st⟩⟩
  all_goals try exact fj_nn hg
  have hg := fj_sj (a := (pc + 1, ls, x :: y :: x :: y :: st, M)) hg
  subst hg
  refine lv_dup2_11 hx hb hdec (fj_vv_cat ad x) (fj_vv_cat ad y) ?_
  exact kk H locs lsA ⟨hP, hD, hS⟩ hl ⟨hv.1, List.forall_mem_cons.mpr ⟨(List.forall_mem_cons.mp hv.2).1, List.forall_mem_cons.mpr ⟨(List.forall_mem_cons.mp (List.forall_mem_cons.mp hv.2).2).1, hv.2⟩⟩⟩

theorem fj_g_dup_x1  (Fx : fj_Fix X sc D ad cI cR A p R s m args c k cells slots) (he : fj_code k pc = some (.dup_x1, nx, tg, sw)) (hg : fj_go X (.dup_x1, nx, tg, sw) ls st M = some d) (hw : fj_Wd D ad cI cR A s M H locs) (hl : fj_has ad lsA (fj_nL k) ls) (hv : fj_vals sc ls st)
    (kk : ∀ (H' : Heap) (locs' : List Loc) (lsA' : Array Slot), fj_Wd D ad cI cR A s d.2.2.2 H' locs' → fj_has ad lsA' (fj_nL k) d.2.1 → fj_vals sc d.2.1 d.2.2.1 → W p l e R s m args below meth c H' locs' cells slots Q (F0 m d.1 lsA' (d.2.2.1.map (fj_vv ad)))) : W p l e R s m args below meth c H locs cells slots Q (F0 m pc lsA (st.map (fj_vv ad))) := by
  obtain ⟨hx, hb, hml, hown, hts, hK, hSt, hA, hsc, hR, hcs⟩ := Fx
  obtain ⟨hP, hD, hS⟩ := hw
  obtain ⟨hdec, hnx⟩ := fj_dc he rfl
  replace hnx : nx = pc + 1 := hnx
  subst hnx
  rcases st with _ | ⟨x, _ | ⟨y, st⟩⟩
  all_goals try exact fj_nn hg
  have hg := fj_sj (a := (pc + 1, ls, x :: y :: x :: st, M)) hg
  subst hg
  refine lv_dup_x1 hx hb hdec (fj_vv_cat ad x) (fj_vv_cat ad y) ?_
  obtain ⟨v1, v2⟩ := List.forall_mem_cons.mp hv.2
  obtain ⟨v3, v4⟩ := List.forall_mem_cons.mp v2
  exact kk H locs lsA ⟨hP, hD, hS⟩ hl ⟨hv.1, List.forall_mem_cons.mpr ⟨v1, List.forall_mem_cons.mpr ⟨v3, List.forall_mem_cons.mpr ⟨v1, v4⟩⟩⟩⟩

theorem fj_g_goto {off : Int} (Fx : fj_Fix X sc D ad cI cR A p R s m args c k cells slots) (he : fj_code k pc = some (.goto off, nx, tg, sw)) (hg : fj_go X (.goto off, nx, tg, sw) ls st M = some d) (hw : fj_Wd D ad cI cR A s M H locs) (hl : fj_has ad lsA (fj_nL k) ls) (hv : fj_vals sc ls st)
    (kk : ∀ (H' : Heap) (locs' : List Loc) (lsA' : Array Slot), fj_Wd D ad cI cR A s d.2.2.2 H' locs' → fj_has ad lsA' (fj_nL k) d.2.1 → fj_vals sc d.2.1 d.2.2.1 → W p l e R s m args below meth c H' locs' cells slots Q (F0 m d.1 lsA' (d.2.2.1.map (fj_vv ad)))) : W p l e R s m args below meth c H locs cells slots Q (F0 m pc lsA (st.map (fj_vv ad))) := by
  obtain ⟨hx, hb, hml, hown, hts, hK, hSt, hA, hsc, hR, hcs⟩ := Fx
  obtain ⟨hP, hD, hS⟩ := hw
  obtain ⟨hdec, hnx⟩ := fj_dc he rfl
  replace hnx : nx = pc + 3 := hnx
  subst hnx
  have hi : (pc : Int) + off = (tg : Int) := of_decide_eq_true (fj_dx he)
  have hg := fj_sj (a := (tg, ls, st, M)) hg
  subst hg
  refine lv_goto hx hb hdec hi ?_
  exact kk H locs lsA ⟨hP, hD, hS⟩ hl hv

theorem fj_g_ifCond {cc : Jvm.ClassFile.Cond} {off : Int} (Fx : fj_Fix X sc D ad cI cR A p R s m args c k cells slots) (he : fj_code k pc = some (.ifCond cc off, nx, tg, sw)) (hg : fj_go X (.ifCond cc off, nx, tg, sw) ls st M = some d) (hw : fj_Wd D ad cI cR A s M H locs) (hl : fj_has ad lsA (fj_nL k) ls) (hv : fj_vals sc ls st)
    (kk : ∀ (H' : Heap) (locs' : List Loc) (lsA' : Array Slot), fj_Wd D ad cI cR A s d.2.2.2 H' locs' → fj_has ad lsA' (fj_nL k) d.2.1 → fj_vals sc d.2.1 d.2.2.1 → W p l e R s m args below meth c H' locs' cells slots Q (F0 m d.1 lsA' (d.2.2.1.map (fj_vv ad)))) : W p l e R s m args below meth c H locs cells slots Q (F0 m pc lsA (st.map (fj_vv ad))) := by
  obtain ⟨hx, hb, hml, hown, hts, hK, hSt, hA, hsc, hR, hcs⟩ := Fx
  obtain ⟨hP, hD, hS⟩ := hw
  obtain ⟨hdec, hnx⟩ := fj_dc he rfl
  replace hnx : nx = pc + 3 := hnx
  subst hnx
  have hi : (pc : Int) + off = (tg : Int) := of_decide_eq_true (fj_dx he)
  rcases st with _ | ⟨x | r, st⟩
  all_goals try exact fj_nn hg
  have hg := fj_sj (a := (bif fj_cm cc x 0 then tg else pc + 3, ls, st, M)) hg
  subst hg
  have kt : fj_cm cc x 0 = true → W p l e R s m args below meth c H locs cells slots Q (F0 m tg lsA (st.map (fj_vv ad))) := fun h => by
    have := kk H locs lsA ⟨hP, hD, hS⟩ hl ⟨hv.1, (List.forall_mem_cons.mp hv.2).2⟩
    rw [h] at this
    exact this
  have kf : ¬ fj_cm cc x 0 = true → W p l e R s m args below meth c H locs cells slots Q (F0 m (pc + 3) lsA (st.map (fj_vv ad))) := fun h => by
    have := kk H locs lsA ⟨hP, hD, hS⟩ hl ⟨hv.1, (List.forall_mem_cons.mp hv.2).2⟩
    rw [eq_false_of_ne_true h] at this
    exact this
  cases cc
  · exact lv_if_eq hx hb hdec hi (fun h => kt (decide_eq_true h)) (fun h => kf (fun z => h (of_decide_eq_true z)))
  · exact lv_if_ne hx hb hdec hi (fun h => kt (by simp [fj_cm, h])) (fun h => kf (by simp [fj_cm, h]))
  · exact lv_if_lt hx hb hdec hi (fun h => kt (decide_eq_true h)) (fun h => kf (fun z => h (of_decide_eq_true z)))
  · exact lv_if_ge hx hb hdec hi (fun h => kt (decide_eq_true h)) (fun h => kf (fun z => h (of_decide_eq_true z)))
  · exact lv_if_gt hx hb hdec hi (fun h => kt (decide_eq_true h)) (fun h => kf (fun z => h (of_decide_eq_true z)))
  · exact lv_if_le hx hb hdec hi (fun h => kt (decide_eq_true h)) (fun h => kf (fun z => h (of_decide_eq_true z)))

theorem fj_g_if_icmp {cc : Jvm.ClassFile.Cond} {off : Int} (Fx : fj_Fix X sc D ad cI cR A p R s m args c k cells slots) (he : fj_code k pc = some (.if_icmp cc off, nx, tg, sw)) (hg : fj_go X (.if_icmp cc off, nx, tg, sw) ls st M = some d) (hw : fj_Wd D ad cI cR A s M H locs) (hl : fj_has ad lsA (fj_nL k) ls) (hv : fj_vals sc ls st)
    (kk : ∀ (H' : Heap) (locs' : List Loc) (lsA' : Array Slot), fj_Wd D ad cI cR A s d.2.2.2 H' locs' → fj_has ad lsA' (fj_nL k) d.2.1 → fj_vals sc d.2.1 d.2.2.1 → W p l e R s m args below meth c H' locs' cells slots Q (F0 m d.1 lsA' (d.2.2.1.map (fj_vv ad)))) : W p l e R s m args below meth c H locs cells slots Q (F0 m pc lsA (st.map (fj_vv ad))) := by
  obtain ⟨hx, hb, hml, hown, hts, hK, hSt, hA, hsc, hR, hcs⟩ := Fx
  obtain ⟨hP, hD, hS⟩ := hw
  obtain ⟨hdec, hnx⟩ := fj_dc he rfl
  replace hnx : nx = pc + 3 := hnx
  subst hnx
  have hi : (pc : Int) + off = (tg : Int) := of_decide_eq_true (fj_dx he)
  rcases st with _ | ⟨y | r, _ | ⟨x | r2, st⟩⟩
  all_goals try exact fj_nn hg
  have hg := fj_sj (a := (bif fj_cm cc x y then tg else pc + 3, ls, st, M)) hg
  subst hg
  have kt : fj_cm cc x y = true → W p l e R s m args below meth c H locs cells slots Q (F0 m tg lsA (st.map (fj_vv ad))) := fun h => by
    have := kk H locs lsA ⟨hP, hD, hS⟩ hl ⟨hv.1, (List.forall_mem_cons.mp (List.forall_mem_cons.mp hv.2).2).2⟩
    rw [h] at this
    exact this
  have kf : ¬ fj_cm cc x y = true → W p l e R s m args below meth c H locs cells slots Q (F0 m (pc + 3) lsA (st.map (fj_vv ad))) := fun h => by
    have := kk H locs lsA ⟨hP, hD, hS⟩ hl ⟨hv.1, (List.forall_mem_cons.mp (List.forall_mem_cons.mp hv.2).2).2⟩
    rw [eq_false_of_ne_true h] at this
    exact this
  cases cc
  · exact lv_icmp_eq hx hb hdec hi (fun h => kt (decide_eq_true h)) (fun h => kf (fun z => h (of_decide_eq_true z)))
  · exact lv_icmp_ne hx hb hdec hi (fun h => kt (by simp [fj_cm, h])) (fun h => kf (by simp [fj_cm, h]))
  · exact lv_icmp_lt hx hb hdec hi (fun h => kt (decide_eq_true h)) (fun h => kf (fun z => h (of_decide_eq_true z)))
  · exact lv_icmp_ge hx hb hdec hi (fun h => kt (decide_eq_true h)) (fun h => kf (fun z => h (of_decide_eq_true z)))
  · exact lv_icmp_gt hx hb hdec hi (fun h => kt (decide_eq_true h)) (fun h => kf (fun z => h (of_decide_eq_true z)))
  · exact lv_icmp_le hx hb hdec hi (fun h => kt (decide_eq_true h)) (fun h => kf (fun z => h (of_decide_eq_true z)))

end FJG
