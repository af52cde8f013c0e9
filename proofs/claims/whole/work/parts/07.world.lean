/-! THE CELLS OF THE FLAT MACHINE'S MEMORY -/
theorem fj_nn {α : Type} {d : α} {P : Prop} (h : (none : Option α) = some d) : P := by cases h
theorem fj_sj {α : Type} {a d : α} (h : some a = some d) : a = d := Option.some.inj h
def fj_vv (ad : Nat → Nat → Nat) : fj_V → Value
  | .inl x => .int x
  | .inr r => .ref (ad r.1 r.2)
theorem fj_vv_cat (ad : Nat → Nat → Nat) (v : fj_V) : (fj_vv ad v).category = 1 := by cases v <;> rfl
def fj_fv (ad : Nat → Nat → Nat) (M : fj_M) (κ i j : Nat) : Value := match fj_lk (κ * 100 + j) fj_F with
  | some κ2 => .ref (ad κ2 i)
  | none => .int (fj_rd M κ i j)
def fj_E (ad : Nat → Nat → Nat) (cI : ClassId) (cR : Nat → ClassId) (M : fj_M) (κ i : Nat) : va_E := match fj_lk κ fj_K with
  | some (_, 0, a, b) => .inr (a, (List.range b).map (fj_fv ad M κ i))
  | some (_, 1, a, _) => .inl (cI, a, .inl (fj_rd M κ i))
  | some (_, _, a, b) => .inl (cR b, a, .inr (.inr (.inr (.inr (fun j => some (ad b j))))))
  | none => .inr (0, [])
def fj_ws (ad : Nat → Nat → Nat) (cI : ClassId) (cR : Nat → ClassId) (M : fj_M) : va_W := fj_cells.map (fun c => (ad c.1 c.2, fj_E ad cI cR M c.1 c.2))
def fj_ty (cI : ClassId) (cR : Nat → ClassId) : List (ClassId × FieldType) := [(cI, .int), (cR 7, .object RX4), (cR 10, .object RX0)]
theorem fj_rd_up (M : fj_M) (κ i j : Nat) (v : Int32) (a b c : Nat) : fj_rd (fj_up M κ i j v) a b c = if a = κ ∧ b = i ∧ c = j then v else fj_rd M a b c := by
  by_cases ha : a = κ
  · subst ha
    unfold fj_rd fj_up
    cases Nat.ble 20 a <;> simp [fj_u1]
  · rw [if_neg (fun h => ha h.1)]
    unfold fj_rd fj_up
    cases Nat.ble 20 a <;> cases Nat.ble 20 κ <;> simp [fj_u1, ha]
theorem fj_E_ne {ad : Nat → Nat → Nat} {cI : ClassId} {cR : Nat → ClassId} {M : fj_M} {κ a j : Nat} {v : Int32} {κ' a' : Nat} (h : ¬ (κ' = κ ∧ a' = a)) : fj_E ad cI cR (fj_up M κ a j v) κ' a' = fj_E ad cI cR M κ' a' := by
  have hr : fj_rd (fj_up M κ a j v) κ' a' = fj_rd M κ' a' := funext fun c => by rw [fj_rd_up, if_neg (fun q => h ⟨q.1, q.2.1⟩)]
  have hf : fj_fv ad (fj_up M κ a j v) κ' a' = fj_fv ad M κ' a' := funext fun c => by unfold fj_fv; rw [hr]
  unfold fj_E
  rw [hr, hf]
theorem fj_cells_all : ∀ q ∈ fj_K, ∀ a, a < q.2.1 → (q.1, a) ∈ fj_cells := by decide +kernel
theorem fj_cells_one : ∀ i, i < 75 → ∀ j, j < 75 → fj_cells[i]? = fj_cells[j]? → i = j := by decide +kernel
theorem fj_cells_len : fj_cells.length = 75 := by decide +kernel
theorem fj_cell_at {κ a : Nat} {t : Nat × Nat × Nat × Nat} (h : fj_lk κ fj_K = some t) (ha : a < t.1) : ∃ p : Nat, fj_cells[p]? = some (κ, a) := List.getElem?_of_mem (fj_cells_all _ (fj_lk_mem h) a ha)
section FJW
variable {ad : Nat → Nat → Nat} {cI : ClassId} {cR : Nat → ClassId} {M : fj_M} {κ a j p n N ci : Nat} {v : Int32}
theorem fj_ws_at (hp : fj_cells[p]? = some (κ, a)) : (fj_ws ad cI cR M)[p]? = some (ad κ a, fj_E ad cI cR M κ a) := by
  unfold fj_ws
  rw [List.getElem?_map, hp]
  rfl
theorem fj_ws_set (hp : fj_cells[p]? = some (κ, a)) {e : va_E} (he : e = fj_E ad cI cR (fj_up M κ a j v) κ a) : (fj_ws ad cI cR M).set p (ad κ a, e) = fj_ws ad cI cR (fj_up M κ a j v) := by
  subst he
  have hpl : p < 75 := by rw [← fj_cells_len]; exact (List.getElem?_eq_some_iff.mp hp).1
  apply List.ext_getElem?
  intro q
  by_cases hq : q = p
  · subst hq
    rw [List.getElem?_set_self (by unfold fj_ws; rw [List.length_map, fj_cells_len]; exact hpl), fj_ws_at hp]
  · rw [List.getElem?_set_ne (Ne.symm hq)]
    unfold fj_ws
    rw [List.getElem?_map, List.getElem?_map]
    cases hc : fj_cells[q]? with
    | none => rfl
    | some c =>
      have hql : q < 75 := by rw [← fj_cells_len]; exact (List.getElem?_eq_some_iff.mp hc).1
      have hne : ¬ (c.1 = κ ∧ c.2 = a) := fun h => hq (fj_cells_one q hql p hpl (by rw [hc, hp, ← h.1, ← h.2]))
      show some (ad c.1 c.2, fj_E ad cI cR M c.1 c.2) = some (ad c.1 c.2, fj_E ad cI cR (fj_up M κ a j v) c.1 c.2)
      rw [fj_E_ne hne]
theorem fj_E_obj (h : fj_lk κ fj_K = some (n, 0, ci, N)) : fj_E ad cI cR M κ a = .inr (ci, (List.range N).map (fj_fv ad M κ a)) := by
  unfold fj_E
  rw [h]
  rfl
theorem fj_E_arr {b : Nat} (h : fj_lk κ fj_K = some (n, 1, N, b)) : fj_E ad cI cR M κ a = .inl (cI, N, .inl (fj_rd M κ a)) := by
  unfold fj_E
  rw [h]
  rfl
theorem fj_E_ref {b : Nat} (h : fj_lk κ fj_K = some (n, 2, N, b)) : fj_E ad cI cR M κ a = .inl (cR b, N, .inr (.inr (.inr (.inr (fun j => some (ad b j)))))) := by
  unfold fj_E
  rw [h]
  rfl
theorem fj_fs_set (hF : fj_lk (κ * 100 + j) fj_F = none) (hj : j < N) : ((List.range N).map (fj_fv ad M κ a)).set j (.int v) = (List.range N).map (fj_fv ad (fj_up M κ a j v) κ a) := by
  apply List.ext_getElem?
  intro q
  by_cases hq : q = j
  · subst hq
    rw [List.getElem?_set_self (by simpa using hj), List.getElem?_map, List.getElem?_range hj]
    simp [fj_fv, hF, fj_rd_up]
  · rw [List.getElem?_set_ne (Ne.symm hq), List.getElem?_map, List.getElem?_map]
    by_cases hqN : q < N
    · rw [List.getElem?_range hqN]
      show some _ = some _
      unfold fj_fv
      rw [fj_rd_up, if_neg (fun h => hq h.2.2)]
    · rw [List.getElem?_eq_none (by simpa using hqN)]
      rfl
theorem fj_arr_upd : upd (fj_rd M κ a) j v = fj_rd (fj_up M κ a j v) κ a := funext fun q => by
  rw [fj_rd_up]
  unfold upd
  simp
end FJW
/-- a reference that there is -/
def fj_val (sc : Prop) (v : fj_V) : Prop := match v with
  | .inl _ => True
  | .inr r => (∃ t, fj_lk r.1 fj_K = some t ∧ r.2 < t.1) ∨ r = (40, 0) ∨ r = (41, 0) ∨ (r = (42, 0) ∧ sc)
def fj_vals (sc : Prop) (ls : fj_L) (st : List fj_V) : Prop := (∀ (i : Nat) (v : fj_V), ls[i]? = some (some v) → fj_val sc v) ∧ ∀ v ∈ st, fj_val sc v
theorem fj_vals.set {sc : Prop} {ls : fj_L} {st st' : List fj_V} {k : Nat} {v : fj_V} (h : fj_vals sc ls st) (hv : fj_val sc v) (hs : ∀ w ∈ st', fj_val sc w) : fj_vals sc (ls.set k (some v)) st' := by
  refine ⟨fun i w hi => ?_, hs⟩
  by_cases hk : i = k
  · subst hk
    by_cases hl : i < ls.length
    · rw [List.getElem?_set_self hl] at hi
      cases hi
      exact hv
    · rw [List.getElem?_eq_none (by simpa using hl)] at hi
      cases hi
  · rw [List.getElem?_set_ne (Ne.symm hk)] at hi
    exact h.1 i w hi
/-- the locals -/
def fj_has (ad : Nat → Nat → Nat) (lsA : Array Slot) (nL : Nat) (ls : fj_L) : Prop := lsA.size = nL ∧ lv_wf lsA ∧ ls.length = nL ∧ ∀ (i : Nat) (v : fj_V), ls[i]? = some (some v) → lsA[i]? = some (.val (fj_vv ad v))
def fj_prs (ad : Nat → Nat → Nat) (ls : fj_L) : List (Nat × Value) := (List.range ls.length).filterMap (fun i => match ls[i]? with
  | some (some v) => some (i, fj_vv ad v)
  | _ => none)
theorem fj_prs_mem {ad : Nat → Nat → Nat} {ls : fj_L} {q : Nat × Value} : q ∈ fj_prs ad ls ↔ ∃ v, ls[q.1]? = some (some v) ∧ q.2 = fj_vv ad v := by
  unfold fj_prs
  rw [List.mem_filterMap]
  constructor
  · rintro ⟨i, hi, h⟩
    cases hc : ls[i]? with
    | none => rw [hc] at h; cases h
    | some o =>
      rw [hc] at h
      cases o with
      | none => cases h
      | some v =>
        cases h
        exact ⟨v, hc, rfl⟩
  · rintro ⟨v, h, h2⟩
    refine ⟨q.1, List.mem_range.mpr (List.getElem?_eq_some_iff.mp h).1, ?_⟩
    rw [h]
    show some (q.1, fj_vv ad v) = some q
    rw [← h2]
theorem fj_has.lv {ad : Nat → Nat → Nat} {lsA : Array Slot} {nL : Nat} {ls : fj_L} (h : fj_has ad lsA nL ls) : lv_has lsA nL (fj_prs ad ls) := by
  refine ⟨h.1, h.2.1, fun q hq => ?_⟩
  obtain ⟨v, h1, h2⟩ := fj_prs_mem.mp hq
  rw [h2]
  exact h.2.2.2 _ _ h1
theorem fj_has.set {ad : Nat → Nat → Nat} {lsA lsA' : Array Slot} {nL : Nat} {ls : fj_L} {i : Nat} {v : fj_V} (h : fj_has ad lsA nL ls) (h' : lv_has lsA' nL ((i, fj_vv ad v) :: (fj_prs ad ls).filter (fun q => !(q.1 == i) && !(q.1 + 1 == i && q.2.category == 2)))) : fj_has ad lsA' nL (ls.set i (some v)) := by
  refine ⟨h'.1, h'.2.1, by rw [List.length_set]; exact h.2.2.1, fun j w hj => ?_⟩
  by_cases hji : j = i
  · subst hji
    by_cases hl : j < ls.length
    · rw [List.getElem?_set_self hl] at hj
      cases hj
      exact h'.2.2 _ List.mem_cons_self
    · rw [List.getElem?_eq_none (by simpa using hl)] at hj
      cases hj
  · rw [List.getElem?_set_ne (Ne.symm hji)] at hj
    refine h'.2.2 (j, fj_vv ad w) (List.mem_cons_of_mem _ (List.mem_filter.mpr ⟨fj_prs_mem.mpr ⟨w, hj, rfl⟩, ?_⟩))
    simp [hji, fj_vv_cat]
theorem fj_largs (ad : Nat → Nat → Nat) : ∀ (as : List fj_V) (o i : Nat) (v : fj_V), as[i]? = some v → (o + i, fj_vv ad v) ∈ lv_args o (as.map (fj_vv ad))
  | [], o, i, v, h => by simp at h
  | a :: as, o, 0, v, h => by
    simp at h
    subst h
    exact List.mem_cons_self
  | a :: as, o, i + 1, v, h => by
    have h1 := fj_largs ad as (o + 1) i v (by simpa using h)
    show _ ∈ (o, fj_vv ad a) :: lv_args (if (fj_vv ad a).category = 2 then o + 2 else o + 1) (as.map (fj_vv ad))
    rw [if_neg (by rw [fj_vv_cat]; decide)]
    rw [show o + (i + 1) = o + 1 + i by omega]
    exact List.mem_cons_of_mem _ h1
theorem fj_lgsl (ad : Nat → Nat → Nat) (as : List fj_V) : (lg_sl (as.map (fj_vv ad))).length = as.length := by
  induction as with
  | nil => rfl
  | cons a as ih =>
    have : lg_sl ((a :: as).map (fj_vv ad)) = (if (fj_vv ad a).category = 2 then [Slot.val (fj_vv ad a), .second] else [.val (fj_vv ad a)]) ++ lg_sl (as.map (fj_vv ad)) := rfl
    rw [this, if_neg (by rw [fj_vv_cat]; decide), List.length_append, ih, List.length_cons, List.length_cons, List.length_nil]
    omega
theorem fj_en_at {as : List fj_V} {n i : Nat} {v : fj_V} (h : (fj_en as n)[i]? = some (some v)) : as[i]? = some v := by
  unfold fj_en at h
  by_cases hi : i < as.length
  · rw [List.getElem?_append_left (by simpa using hi), List.getElem?_map] at h
    cases hc : as[i]? with
    | none => rw [hc] at h; cases h
    | some w =>
      rw [hc] at h
      exact congrArg some (Option.some.inj (Option.some.inj h))
  · rw [List.getElem?_append_right (by simpa using hi)] at h
    have := List.mem_of_getElem? h
    have := List.eq_of_mem_replicate this
    cases this
theorem fj_entry (ad : Nat → Nat → Nat) (as : List fj_V) {n : Nat} (h : as.length ≤ n) : fj_has ad ((lg_sl (as.map (fj_vv ad)) ++ List.replicate (n - (lg_sl (as.map (fj_vv ad))).length) Slot.unset).toArray) n (fj_en as n) := by
  obtain ⟨h1, h2, h3⟩ := lv_entry (as.map (fj_vv ad)) (n := n) (by rw [fj_lgsl]; exact h)
  refine ⟨h1, h2, ?_, fun i v hi => ?_⟩
  · unfold fj_en
    rw [List.length_append, List.length_map, List.length_replicate]
    omega
  · have := h3 _ (fj_largs ad as 0 i v (fj_en_at hi))
    rw [Nat.zero_add] at this
    exact this
theorem fj_cut_eq : ∀ (n : Nat) (acc st : List fj_V) (q : List fj_V × List fj_V), fj_cut n acc st = some q → q.1.length = acc.length + n ∧ acc.reverse ++ st = q.1.reverse ++ q.2
  | 0, acc, st, q, h => by
    cases h
    simp
  | n + 1, acc, [], q, h => by cases h
  | n + 1, acc, v :: st, q, h => by
    obtain ⟨h2, h3⟩ := fj_cut_eq n (v :: acc) st q h
    exact ⟨by rw [h2]; simp only [List.length_cons]; omega, by rw [← h3]; simp⟩
theorem fj_cut_st {n : Nat} {st : List fj_V} {q : List fj_V × List fj_V} (h : fj_cut n [] st = some q) : st = q.1.reverse ++ q.2 ∧ q.1.length = n := by
  obtain ⟨h2, h3⟩ := fj_cut_eq n [] st q h
  exact ⟨by simpa using h3, by simpa using h2⟩
