section FJG
variable {X : fj_X} {sc : Prop} {D : va_G} {ad : Nat → Nat → Nat} {cI : ClassId} {cR : Nat → ClassId} {A : Nat → Prop} {p : Program} {l : Launch} {e : Env} {R : Room} {s : State} {m : MethodId} {args : Array Value} {below : List Frame} {meth : Method} {c : Code} {k cells slots : Nat} {Q : State → Prop}
variable {pc nx tg : Nat} {sw : List (Int32 × Nat)} {ls : fj_L} {st : List fj_V} {M : fj_M} {d : Nat × fj_L × List fj_V × fj_M} {H : Heap} {locs : List Loc} {lsA : Array Slot}
theorem fj_goW {e0 : fj_I} (Fx : fj_Fix X sc D ad cI cR A p R s m args c k cells slots) (he : fj_code k pc = some e0) (hg : fj_go X e0 ls st M = some d) (hmin : ∀ i, e0.1 = .invokestatic i → e0.2.2.1 = 999 ∧ st.length ≤ 10) (hw : fj_Wd D ad cI cR A s M H locs) (hl : fj_has ad lsA (fj_nL k) ls) (hv : fj_vals sc ls st)
    (kk : ∀ (H' : Heap) (locs' : List Loc) (lsA' : Array Slot), fj_Wd D ad cI cR A s d.2.2.2 H' locs' → fj_has ad lsA' (fj_nL k) d.2.1 → fj_vals sc d.2.1 d.2.2.1 → W p l e R s m args below meth c H' locs' cells slots Q (F0 m d.1 lsA' (d.2.2.1.map (fj_vv ad)))) : W p l e R s m args below meth c H locs cells slots Q (F0 m pc lsA (st.map (fj_vv ad))) := by
  obtain ⟨ins, nx, tg, sw⟩ := e0
  cases ins
  case iadd => exact fj_g_iadd Fx he hg hw hl hv kk
  case isub => exact fj_g_isub Fx he hg hw hl hv kk
  case imul => exact fj_g_imul Fx he hg hw hl hv kk
  case iand => exact fj_g_iand Fx he hg hw hl hv kk
  case ior => exact fj_g_ior Fx he hg hw hl hv kk
  case ixor => exact fj_g_ixor Fx he hg hw hl hv kk
  case ishl => exact fj_g_ishl Fx he hg hw hl hv kk
  case ishr => exact fj_g_ishr Fx he hg hw hl hv kk
  case idiv => exact fj_g_idiv Fx he hg hw hl hv kk
  case irem => exact fj_g_irem Fx he hg hw hl hv kk
  case ineg => exact fj_g_ineg Fx he hg hw hl hv kk
  case iconst => exact fj_g_iconst Fx he hg hw hl hv kk
  case bipush => exact fj_g_bipush Fx he hg hw hl hv kk
  case sipush => exact fj_g_sipush Fx he hg hw hl hv kk
  case ldc => exact fj_g_ldc Fx he hg hw hl hv kk
  case ldc_w => exact fj_g_ldc_w Fx he hg hw hl hv kk
  case iload_n => exact fj_g_iload_n Fx he hg hw hl hv kk
  case iload => exact fj_g_iload Fx he hg hw hl hv kk
  case aload_n => exact fj_g_aload_n Fx he hg hw hl hv kk
  case istore_n => exact fj_g_istore_n Fx he hg hw hl hv kk
  case istore => exact fj_g_istore Fx he hg hw hl hv kk
  case astore_n => exact fj_g_astore_n Fx he hg hw hl hv kk
  case iinc => exact fj_g_iinc Fx he hg hw hl hv kk
  case dup => exact fj_g_dup Fx he hg hw hl hv kk
  case pop => exact fj_g_pop Fx he hg hw hl hv kk
  case dup2 => exact fj_g_dup2 Fx he hg hw hl hv kk
  case dup_x1 => exact fj_g_dup_x1 Fx he hg hw hl hv kk
  case goto => exact fj_g_goto Fx he hg hw hl hv kk
  case ifCond => exact fj_g_ifCond Fx he hg hw hl hv kk
  case if_icmp => exact fj_g_if_icmp Fx he hg hw hl hv kk
  case getfield => exact fj_g_getfield Fx he hg hw hl hv kk
  case putfield => exact fj_g_putfield Fx he hg hw hl hv kk
  case getstatic => exact fj_g_getstatic Fx he hg hw hl hv kk
  case iaload => exact fj_g_iaload Fx he hg hw hl hv kk
  case arraylength => exact fj_g_arraylength Fx he hg hw hl hv kk
  case iastore => exact fj_g_iastore Fx he hg hw hl hv kk
  case aaload => exact fj_g_aaload Fx he hg hw hl hv kk
  case tableswitch => exact fj_g_tableswitch Fx he hg hw hl hv kk
  case lookupswitch => exact fj_g_lookupswitch Fx he hg hw hl hv kk
  case invokestatic i => exact fj_g_invokestatic (hmin i rfl).1 (hmin i rfl).2 Fx he hg hw hl hv kk
  all_goals exact fj_nn hg
end FJG
def fj_cc (k nx : Nat) (ls : fj_L) (k2 : Nat) (q : List fj_V × List fj_V) (M : fj_M) : fj_R ⊕ (fj_C ⊕ (fj_C × (fj_R → fj_C))) := .inr (.inr ((k2, 0, fj_en q.1 (fj_nL k2), [], M), fun r => (k, nx, ls, fj_ps r.1 q.2, r.2)))
theorem fj_dec_inv {X : fj_X} {k pc : Nat} {ls : fj_L} {st : List fj_V} {M : fj_M} {e : fj_I} {E : fj_R ⊕ (fj_C ⊕ (fj_C × (fj_R → fj_C)))} (he : fj_code k pc = some e) (h : fj_dec X (k, pc, ls, st, M) = some E) :
    (∃ v, e.1 = .ireturn ∧ st = [.inl v] ∧ E = .inl (some v, M) ∧ fj_rt k ≠ 0 ∧ (fj_rt k = 1 ∨ v = 0 ∨ v = 1)) ∨ (e.1 = .return_ ∧ st = [] ∧ E = .inl (none, M) ∧ fj_rt k = 0) ∨
    (∃ i k2 q, e.1 = .invokevirtual i ∧ e.2.2.1 = k2 ∧ fj_cut (fj_na k2) [] st = some q ∧ fj_isr (fj_rk (fj_ow k2)) q.1 = true ∧ q.2.length ≤ 8 ∧ fj_sta k2 = false ∧ q.1.all fj_nX = true ∧ E = fj_cc k e.2.1 ls k2 q M) ∨
    (∃ i k2 q, e.1 = .invokestatic i ∧ (e.2.2.1 = k2 ∧ Nat.beq k2 999 = false) ∧ fj_cut (fj_na k2) [] st = some q ∧ q.2.length ≤ 8 ∧ fj_sta k2 = true ∧ q.1.all fj_nX = true ∧ E = fj_cc k e.2.1 ls k2 q M) ∨
    (∃ d, fj_go X e ls st M = some d ∧ E = .inr (.inl (k, d)) ∧ ∀ i, e.1 = .invokestatic i → e.2.2.1 = 999 ∧ st.length ≤ 10) := by
  unfold fj_dec at h
  simp only [he] at h
  split at h
  · rename_i hi
    split at h
    · rename_i v
      split at h
      · cases h
      · rename_i h1
        have h := fj_sj h
        exact Or.inl ⟨v, hi, rfl, h.symm, by omega, Or.inl h1⟩
      · rename_i h0 h1
        split at h
        · rename_i h2
          have h := fj_sj h
          exact Or.inl ⟨v, hi, rfl, h.symm, h0, Or.inr h2⟩
        · cases h
    · cases h
  · rename_i hi
    split at h
    · split at h
      · rename_i h1
        have h := fj_sj h
        exact Or.inr (Or.inl ⟨hi, rfl, h.symm, h1⟩)
      · cases h
    · cases h
  · rename_i i hi
    split at h
    · rename_i q hq
      split at h
      · rename_i hb
        have h := fj_sj h
        simp only [Bool.and_eq_true, Bool.not_eq_true'] at hb
        exact Or.inr (Or.inr (Or.inl ⟨i, _, q, hi, rfl, hq, hb.1.1.1, Nat.le_of_ble_eq_true hb.1.1.2, hb.1.2, hb.2, h.symm⟩))
      · cases h
    · cases h
  · rename_i i hi
    split at h
    · rename_i hk9
      split at h
      · rename_i q hq
        split at h
        · rename_i hb
          have h := fj_sj h
          simp only [Bool.and_eq_true] at hb
          exact Or.inr (Or.inr (Or.inr (Or.inl ⟨i, _, q, hi, ⟨rfl, hk9⟩, hq, Nat.le_of_ble_eq_true hb.1.1, hb.1.2, hb.2, h.symm⟩)))
        · cases h
      · cases h
    · rename_i hk9
      split at h
      · rename_i d h1 h2
        have h := fj_sj h
        refine Or.inr (Or.inr (Or.inr (Or.inr ⟨d, h2, h.symm, fun j hj => ?_⟩)))
        exact ⟨Nat.eq_of_beq_eq_true hk9, Nat.le_of_ble_eq_true h1⟩
      · cases h
  · rename_i n1 n2 n3 n4
    split at h
    · rename_i d hd
      have h := fj_sj h
      exact Or.inr (Or.inr (Or.inr (Or.inr ⟨d, hd, h.symm, fun j hj => absurd hj (n4 j)⟩)))
    · cases h
/-- the words of a method -/
def fj_wk (k : Nat) : List Cond := .code (fj_y k) (fj_b k) (fj_nL k) (fj_ret k) :: fj_tb
def fj_B (D : va_G) (ad : Nat → Nat → Nat) (cI : ClassId) (cR : Nat → ClassId) (M : fj_M) (sz : Nat) (U : State) : Prop := U.heap.size = sz ∧ va_P D vwCl (fj_ws ad cI cR M) U.heap ∧ va_K D vwCl (fj_ty cI cR) U ∧ va_D (fun _ => True) (fj_ws ad cI cR M) ∧ fj_St ad (va_A (fj_ws ad cI cR M) sz) U U.heap
def fj_Af (D : va_G) (ad : Nat → Nat → Nat) (cI : ClassId) (cR : Nat → ClassId) (A : Nat → Prop) (M : fj_M) (_ : Unit) (t : State) : Prop := va_P D vwCl (fj_ws ad cI cR M) t.heap ∧ va_K D vwCl (fj_ty cI cR) t ∧ va_D A (fj_ws ad cI cR M)
def fj_Q (D : va_G) (ad : Nat → Nat → Nat) (cI : ClassId) (cR : Nat → ClassId) (A : Nat → Prop) (r : fj_R) : Array Value → State → Outcome → State → Prop := match r.1 with
  | some v => va_Qi (fun x (_ : Unit) => x = v) (fj_Af D ad cI cR A r.2) A
  | none => va_Qv (fun (_ : Unit) => True) (fj_Af D ad cI cR A r.2) A
/-- what a run of n steps of the flat machine says of the JVM -/
def fj_Bn (l : Launch) (n : Nat) : Prop := ∀ (X : fj_X) (sc : Prop) (D : va_G) (ad : Nat → Nat → Nat) (cI : ClassId) (cR : Nat → ClassId) (A : Nat → Prop) (p : Program) (e : Env) (R : Room) (s : State) (m : MethodId) (args : Array Value) (below : List Frame) (meth : Method) (c : Code) (k cells slots : Nat) (Q : State → Prop) (pc : Nat) (ls : fj_L) (st : List fj_V) (M : fj_M) (r : fj_R) (H : Heap) (locs : List Loc) (lsA : Array Slot),
  fj_Fix X sc D ad cI cR A p R s m args c k cells slots → fj_ex X n (k, pc, ls, st, M) = some r → fj_Wd D ad cI cR A s M H locs → fj_has ad lsA (fj_nL k) ls → fj_vals sc ls st →
  (∀ (pc' : Nat) (lsA' : Array Slot) (H' : Heap) (locs' : List Loc), fj_Wd D ad cI cR A s r.2 H' locs' → (match r.1 with
    | some v => decode (fj_b k) pc' = .ok (.ireturn, 1) ∧ fj_rt k ≠ 0 ∧ (fj_rt k = 1 ∨ v = 0 ∨ v = 1)
    | none => decode (fj_b k) pc' = .ok (.return_, 1) ∧ fj_rt k = 0) → W p l e R s m args below meth c H' locs' cells slots Q (F0 m pc' lsA' ((fj_ps r.1 []).map (fj_vv ad)))) →
  W p l e R s m args below meth c H locs cells slots Q (F0 m pc lsA (st.map (fj_vv ad)))
set_option maxHeartbeats 1000000 in
theorem fj_A {l : Launch} {n : Nat} (hB : fj_Bn l n) (X : fj_X) (D : va_G) (ad : Nat → Nat → Nat) (cI : ClassId) (cR : Nat → ClassId) (k : Nat) (as : List fj_V) (M : fj_M) (r : fj_R) (sz : Nat) (hex : fj_ex X n (k, 0, fj_en as (fj_nL k), [], M) = some r) (hpl : plainName (fj_y k).cls = true) (hcl : (fj_y k).cls = fj_Rn (fj_ow k)) (hna : as.length ≤ fj_nL k) (hva : ∀ v ∈ as, fj_val False v) :
    Met l (fj_y k) (fj_wk k) (fj_rm k) (va_Pc (as.map (fj_vv ad)) (fj_B D ad cI cR M sz)) (fj_Q D ad cI cR (va_A (fj_ws ad cI cR M) sz) r) 0 0 (va_A (fj_ws ad cI cR M) sz) := by
  refine Met.ofW (cc := fj_b k) (maxL := fj_nL k) (ret := fj_ret k) hpl rfl ?_
  intro p e s m args below meth c s₁ B hml hv
  obtain ⟨rfl, hsz, hP, hK, hD0, hSt⟩ := hv
  subst hsz
  have hts := atoms_spec (ws := fj_wk k) B.pre
  have hown : s.vm.findClass (fj_y k).cls = some m.cls := findClass_of_methodNamed B.named
  rw [hcl] at hown
  have hD := hD0.self (sz := s.heap.size)
  have hr := B.returns
  rw [lg_entry_eq]
  refine hB X False D ad cI cR (va_A (fj_ws ad cI cR M) s.heap.size) p e (fj_rm k) s m _ below meth c k 0 0 _ 0 _ [] M r s.heap [] _ ⟨B.exec, B.bytes, hml, hown, fun w h => hts w (List.mem_cons_of_mem _ h), hK, hSt, fun q h => Or.inr h, fun h => h.elim, ⟨Nat.le_refl _, Nat.le_refl _⟩, ⟨Nat.le_refl _, Nat.le_refl _⟩⟩ hex ⟨hP, hD, va_S.rf⟩ (fj_entry ad as hna) ⟨fun i v hi => hva v (List.mem_of_getElem? (fj_en_at hi)), fun v h => absurd h List.not_mem_nil⟩ ?_
  rintro pc' lsA' H' locs' ⟨hP', hD', hS'⟩ hend
  obtain ⟨rv, M'⟩ := r
  cases rv with
  | none =>
    obtain ⟨hdec, hrt⟩ := hend
    have hr2 : meth.sig.returnType = none := by
      rw [hr]
      unfold fj_ret
      rw [hrt]
      rfl
    exact W.vret B.exec B.bytes hr2 (fun t ht hW => ⟨⟨(), rfl, trivial, by rw [ht]; exact hP', va_K.moved hW.alike hK, hD'⟩, hS'.F ht⟩) hS'.2.2 hdec (hlocks := B.notSynchronized)
  | some v =>
    obtain ⟨hdec, hrt0, hrt⟩ := hend
    by_cases h1 : fj_rt k = 1
    · have hr2 : meth.sig.returnType = some .int := by
        rw [hr]
        unfold fj_ret
        rw [h1]
        rfl
      exact W.iret B.exec B.bytes hr2 (fun t ht hW => ⟨⟨v, (), rfl, rfl, by rw [ht]; exact hP', va_K.moved hW.alike hK, hD'⟩, hS'.F ht⟩) hS'.2.2 hdec (hlocks := B.notSynchronized)
    · have hr2 : meth.sig.returnType = some .boolean := by
        rw [hr]
        unfold fj_ret
        split
        · omega
        · omega
        · rfl
      have hb : narrow .boolean (.int v) = .int v := by
        rcases hrt with h | rfl | rfl
        · exact absurd h h1
        · rfl
        · rfl
      exact W.zret B.exec B.bytes hr2 hb (fun t ht hW => ⟨⟨v, (), rfl, rfl, by rw [ht]; exact hP', va_K.moved hW.alike hK, hD'⟩, hS'.F ht⟩) hS'.2.2 hdec (hlocks := B.notSynchronized)

