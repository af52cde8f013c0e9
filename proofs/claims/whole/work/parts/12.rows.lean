/-! ROWS OF THE FLAT MACHINE -/
def fj_run (X : fj_X) : Nat → fj_C → Option fj_C
  | 0, c => some c
  | n + 1, c => match fj_dec X c with
    | some (.inr (.inl d)) => fj_run X n d
    | _ => none
theorem fj_blk {X : fj_X} {c : fj_C} {r : fj_R} (n : Nat) (d : fj_C) (h : fj_run X n c = some d) (k : fj_ev X d r) : fj_ev X c r := by
  induction n generalizing c with
  | zero =>
    cases h
    exact k
  | succ n ih =>
    unfold fj_run at h
    split at h
    · rename_i d1 hd
      exact fj_nx hd (ih h)
    · cases h
section FJR
variable {X : fj_X} {k pc nx tg κ a n t f : Nat} {sw : List (Int32 × Nat)} {ls : fj_L} {st : List fj_V} {M : fj_M} {r : fj_R} {x y v : Int32} {c : fj_C} {b : Bool}
theorem fj_bt (h : fj_dec X c = some (.inr (.inl (k, (bif b then t else f), ls, st, M)))) (hb : b = true) (kk : fj_ev X (k, t, ls, st, M) r) : fj_ev X c r := by
  subst hb
  exact fj_nx h kk
theorem fj_bf (h : fj_dec X c = some (.inr (.inl (k, (bif b then t else f), ls, st, M)))) (hb : b = false) (kk : fj_ev X (k, f, ls, st, M) r) : fj_ev X c r := by
  subst hb
  exact fj_nx h kk
theorem fj_nt {P : Prop} {i : Decidable P} (h : ¬ P) : (!@decide P i) = true := by simp [h]
theorem fj_nf {P : Prop} {i : Decidable P} (h : P) : (!@decide P i) = false := by simp [h]
theorem fj_swg {d : Nat} (h : fj_dec X c = some (.inr (.inl (k, fj_sw d sw x, ls, st, M)))) (hb : fj_sw d sw x = t) (kk : fj_ev X (k, t, ls, st, M) r) : fj_ev X c r := by
  subst hb
  exact fj_nx h kk
theorem fj_ald (hc : fj_code k pc = some (.iaload, nx, tg, sw)) (hn : fj_ln X κ = some n) (hin : ¬ (x < 0 ∨ n ≤ x.toNatClampNeg)) (kk : fj_ev X (k, nx, ls, .inl (fj_gt X M κ a x.toNatClampNeg) :: st, M) r) : fj_ev X (k, pc, ls, .inl x :: .inr (κ, a) :: st, M) r := by
  refine fj_nx ?_ kk
  unfold fj_dec
  simp only [hc]
  unfold fj_go
  simp only [hn, if_neg hin]
theorem fj_ast {u1 u2 : Nat} (hc : fj_code k pc = some (.iastore, nx, tg, sw)) (hn : fj_lk κ fj_K = some (u1, 1, n, u2)) (hin : ¬ (x < 0 ∨ n ≤ x.toNatClampNeg)) (kk : fj_ev X (k, nx, ls, st, fj_up M κ a x.toNatClampNeg v) r) : fj_ev X (k, pc, ls, .inl v :: .inl x :: .inr (κ, a) :: st, M) r := by
  refine fj_nx ?_ kk
  unfold fj_dec
  simp only [hc]
  unfold fj_go
  simp only [hn, if_neg hin]
theorem fj_aal {u1 u2 : Nat} (hc : fj_code k pc = some (.aaload, nx, tg, sw)) (hn : fj_lk κ fj_K = some (u1, 2, n, u2)) (hin : ¬ (x < 0 ∨ n ≤ x.toNatClampNeg)) (kk : fj_ev X (k, nx, ls, .inr (u2, x.toNatClampNeg) :: st, M) r) : fj_ev X (k, pc, ls, .inl x :: .inr (κ, a) :: st, M) r := by
  refine fj_nx ?_ kk
  unfold fj_dec
  simp only [hc]
  unfold fj_go
  simp only [hn, if_neg hin]
theorem fj_idv (hc : fj_code k pc = some (.idiv, nx, tg, sw)) (hy : ¬ y = 0) (kk : fj_ev X (k, nx, ls, .inl (x / y) :: st, M) r) : fj_ev X (k, pc, ls, .inl y :: .inl x :: st, M) r := by
  refine fj_nx ?_ kk
  unfold fj_dec
  simp only [hc]
  unfold fj_go
  simp only [if_neg hy]
theorem fj_irm (hc : fj_code k pc = some (.irem, nx, tg, sw)) (hy : ¬ y = 0) (kk : fj_ev X (k, nx, ls, .inl (x - x / y * y) :: st, M) r) : fj_ev X (k, pc, ls, .inl y :: .inl x :: st, M) r := by
  refine fj_nx ?_ kk
  unfold fj_dec
  simp only [hc]
  unfold fj_go
  simp only [if_neg hy]
theorem fj_ri (hc : fj_code k pc = some (.ireturn, nx, tg, sw)) (hr : fj_rt k = 1) : fj_ev X (k, pc, ls, [.inl v], M) (some v, M) := by
  refine fj_end ?_
  unfold fj_dec
  simp only [hc, hr]
theorem fj_rz (hc : fj_code k pc = some (.ireturn, nx, tg, sw)) (hr : fj_rt k = 2) (hv : v = 0 ∨ v = 1) : fj_ev X (k, pc, ls, [.inl v], M) (some v, M) := by
  refine fj_end ?_
  unfold fj_dec
  simp only [hc, hr, if_pos hv]
theorem fj_rv (hc : fj_code k pc = some (.return_, nx, tg, sw)) (hr : fj_rt k = 0) : fj_ev X (k, pc, ls, [], M) (none, M) := by
  refine fj_end ?_
  unfold fj_dec
  simp only [hc, hr]
end FJR
