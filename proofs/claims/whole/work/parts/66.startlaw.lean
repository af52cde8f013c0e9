def R_law : String := "TurnTasksLaw"
def lw_P (b : Addr) (xs : List Int32) (args : Array Value) (s : State) : Prop := args = #[.ref b] ∧ s.IntsAt b xs ∧ xs.length ≤ 1536 ∧ (Jvm.Cond.and given_1 narrow_1).before args s = true
def lw_Q (_ : Array Value) (s : State) (o : Outcome) (t : State) : Prop := o = .returned (some (.int 1)) ∧ Framed s o t [] 600000 7302250
def lw_Z (below : List Frame) (a : Array Value) (s : State) : State → Prop := fun t => ∃ o, t.status = .running ∧ Ended t below o ∧ lw_Q a s o t
/-- the law's own end, with 1 on the stack, nothing written that was there before, its room as the claim has it -/
theorem lw_ret {p : Program} {l : Launch} {e : Env} {s : State} {m : MethodId} {below : List Frame} {meth : Method} {c : Code} {b : Nat} (hx : p.tables.exec = Jvm.exec) (hb : c.code = code) (hr : meth.sig.returnType = ret) (hlocks : meth.locks = false) {pc : Nat} {H : Heap} {ls : Array Slot} (hdg : decode code pc = .ok (.ireturn, 1)) : W p l e room_1 s m #[Value.ref b] below meth c H [] 600000 7302250 (lw_Z below #[Value.ref b] s) (F0 m pc ls [.int 1]) := by
  intro T hT X
  obtain ⟨fs, hret, hrun, hended, hW, hframe⟩ := X.leave (v := some (.int 1)) (hlocks := hlocks) (fun h => by rw [hr] at h; cases h)
  have hmeth' : T.vm.method? m = some meth := X.method'
  refine ⟨T.setFrames fs, ?_, .returned (some (.int 1)), hrun, hended, rfl, ⟨_, rfl⟩, hW, hframe⟩
  jvm_step X.here [X.here.top, hx, hb, hdg, hmeth', hr, ret, narrow_b1]
  (try refine ⟨rfl, ?_⟩); (try refine ⟨rfl, ?_⟩)
  first | (intro acts; rw [hret _ acts rfl rfl rfl]) | rw [hret _ _ rfl rfl rfl]
  exact Steps.refl _
/-- what holds at the law's entry: the machine, the code, the tables' words (any of lw_tbl by 'hts w (by decide +kernel)'), the script of L ints xs at the cell b, what the Statement gives of the start (any of its parts by flat_of_before) -/
def lw_At (p : Program) (s : State) (m : MethodId) (meth : Method) (c : Code) (b L : Nat) (xs : Nat → Int32) : Prop :=
  p.tables.exec = Jvm.exec ∧ c.code = code ∧ meth.sig.returnType = ret ∧ c.maxLocals = 4 ∧ s.vm.findClass R_law = some m.cls ∧ (∀ w ∈ lw_tbl, w.before #[Value.ref b] s = true) ∧ va_X b L xs s s.heap ∧ b < s.heap.size ∧ meth.locks = false ∧ (Jvm.Cond.and given_1 narrow_1).before #[Value.ref b] s = true

set_option maxHeartbeats 4000000 in
set_option maxRecDepth 100000 in
/-- from pc 16 on: the flat machine's run of the law -/
theorem st_law {p : Program} {e : Env} {s : State} {m : MethodId} {below : List Frame} {meth : Method} {c : Code} (l : Launch) {b L : Nat} {xs : Nat → Int32} (hL : L ≤ 1536) (C0 : lw_At p s m meth c b L xs) {D : va_G} {h0 h6 : Nat} {u : st_S} {v : Nat → Nat} {H : Heap} {locs : List Loc} {ls : Array Slot} (hu : st_post u) (hP : va_P D vwCl (st_6 h6 u.2.2.2.1 v ++ st_W h0 u) H) (hD : va_D (fun q : Nat => s.heap.size ≤ q) (st_6 h6 u.2.2.2.1 v ++ st_W h0 u)) (hK : va_K D vwCl [(u.2.2.2.1, .int), (u.2.2.2.2.1, .object RX4), (u.2.2.2.2.2, .object RX0)] s) (hS : va_S (fun q : Nat => s.heap.size ≤ q) s.heap H locs) (hl : lv_has ls 4 [(2, .ref h6), (1, .ref h0), (0, .ref b)]) :
    W p l e room_1 s m #[Value.ref b] below meth c H locs 600000 7302250 (lw_Z below #[Value.ref b] s) (F0 m 16 ls []) := by
  obtain ⟨hx, hb, hr, hml, hown, hts, hX, hbl, hlocks, hgv⟩ := id C0
  have hA : ∀ q : Nat, s.heap.size ≤ q → (fun q : Nat => s.heap.size ≤ q) q := fun _ h => h
  have hbA : ¬ (fun q : Nat => s.heap.size ≤ q) b := Nat.not_le.mpr hbl
  have hsl := flat_of_before _ hgv
  obtain ⟨t1, t2, ⟨z1, z2⟩, z3, z4⟩ := st_St (A := fun q : Nat => s.heap.size ≤ q) hts hsl (fun a h => Nat.not_le.mpr h)
  obtain ⟨hPw, hDw⟩ := st_world (b := b) (t1 := t1) (t2 := t2) hu hP hD
  obtain ⟨M', hM⟩ := q_law (L, xs) hL st_R st_Wq
  obtain ⟨n, hn⟩ := de_123 (L, xs) (st_C, st_N) (1, M') hM
  have hSt : fj_St (st_ad h0 h6 b t1 t2 u.1 v u.2.1.1 u.2.1.2) (fun q : Nat => s.heap.size ≤ q) s s.heap := ⟨z1, z2, z3, z4⟩
  have htb : ∀ w ∈ fj_tb, w.before #[Value.ref b] s = true := fun w h => hts w (fj_tb_lw h)
  refine fj_allB l n (L, xs) True D (st_ad h0 h6 b t1 t2 u.1 v u.2.1.1 u.2.1.2) u.2.2.2.1 (fun k => if k = 7 then u.2.2.2.2.1 else u.2.2.2.2.2) (fun q : Nat => s.heap.size ≤ q) p e room_1 s m #[Value.ref b] below meth c 123 600000 7302250 (lw_Z below #[Value.ref b] s) 16 [some (.inr (42, 0)), some (.inr (0, 0)), some (.inr (20, 0)), none] [] (st_C, st_N) (some 1, M') H locs ls ⟨hx, hb, hml, hown, htb, hK, hSt, hA, fun _ => ⟨hX, hbl, hbA⟩, ⟨Nat.le_of_ble_eq_true rfl, Nat.le_of_ble_eq_true rfl⟩, ⟨Nat.le_refl _, Nat.le_refl _⟩⟩ hn ⟨hPw, hDw, hS⟩ ?_ ?_ ?_
  · refine ⟨hl.1, hl.2.1, rfl, fun i w hi => ?_⟩
    match i, hi with
    | 0, hi =>
      cases hi
      exact lv_at hl 2 rfl
    | 1, hi =>
      cases hi
      exact lv_at hl 1 rfl
    | 2, hi =>
      cases hi
      exact lv_at hl 0 rfl
    | 3, hi => cases hi
    | k + 4, hi => cases hi
  · refine ⟨fun i w hi => ?_, fun w h => absurd h List.not_mem_nil⟩
    match i, hi with
    | 0, hi =>
      cases hi
      exact Or.inr (Or.inr (Or.inr ⟨rfl, trivial⟩))
    | 1, hi =>
      cases hi
      exact Or.inl ⟨_, rfl, by decide⟩
    | 2, hi =>
      cases hi
      exact Or.inl ⟨_, rfl, by decide⟩
    | 3, hi => cases hi
    | k + 4, hi => cases hi
  · rintro pc' ls' H' locs' ⟨-, -, hS'⟩ ⟨hdec, -, -⟩
    refine va_forget (fun q hq => hS'.2.2 q hq) ?_
    exact lw_ret hx hb hr hlocks hdec
