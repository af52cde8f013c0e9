/-! THE FLAT MACHINE: frames over a memory of ints; references are (kind, number) -/
def fj_rd (M : fj_M) (κ i j : Nat) : Int32 := match Nat.ble 20 κ with
  | false => M.1 κ i j
  | true => M.2 κ i j
def fj_u1 (M : fj_N) (κ i j : Nat) (v : Int32) : fj_N := fun a b c => if a = κ ∧ b = i ∧ c = j then v else M a b c
def fj_up (M : fj_M) (κ i j : Nat) (v : Int32) : fj_M := match Nat.ble 20 κ with
  | false => (fj_u1 M.1 κ i j v, M.2)
  | true => (M.1, fj_u1 M.2 κ i j v)
def fj_tk (j : Nat) : Int32 := fj_tkL.getD j 0
def fj_gv (j : Nat) : Int32 := fj_gvL.getD j 0
/-- readable rows of ints: how long -/
def fj_ln (X : fj_X) (κ : Nat) : Option Nat := match κ with
  | 40 => some 46
  | 41 => some 46
  | 42 => some X.1
  | _ => match fj_lk κ fj_K with
    | some (_, 1, n, _) => some n
    | _ => none
def fj_gt (X : fj_X) (M : fj_M) (κ i j : Nat) : Int32 := match κ with
  | 40 => fj_tk j
  | 41 => fj_gv j
  | 42 => X.2 j
  | _ => fj_rd M κ i j
def fj_cm (c : Jvm.ClassFile.Cond) (x y : Int32) : Bool := match c with
  | .eq => decide (x = y)
  | .ne => !decide (x = y)
  | .lt => decide (x < y)
  | .ge => decide (y ≤ x)
  | .gt => decide (y < x)
  | .le => decide (x ≤ y)
def fj_sw (d : Nat) : List (Int32 × Nat) → Int32 → Nat
  | [], _ => d
  | q :: r, x => if x = q.1 then q.2 else fj_sw d r x
def fj_go (X : fj_X) (e : fj_I) (ls : fj_L) (st : List fj_V) (M : fj_M) : Option (Nat × fj_L × List fj_V × fj_M) :=
  match e.1 with
  | .iconst n => some (e.2.1, ls, .inl (Int32.ofInt n) :: st, M)
  | .bipush n => some (e.2.1, ls, .inl (Int8.ofInt n).toInt32 :: st, M)
  | .sipush n => some (e.2.1, ls, .inl (Int16.ofInt n).toInt32 :: st, M)
  | .ldc _ => match e.2.2.2 with
    | [q] => some (e.2.1, ls, .inl q.1 :: st, M)
    | _ => none
  | .ldc_w _ => match e.2.2.2 with
    | [q] => some (e.2.1, ls, .inl q.1 :: st, M)
    | _ => none
  | .iload_n k => match ls[(k : Nat)]? with
    | some (some (.inl x)) => some (e.2.1, ls, .inl x :: st, M)
    | _ => none
  | .iload k => match ls[k]? with
    | some (some (.inl x)) => some (e.2.1, ls, .inl x :: st, M)
    | _ => none
  | .aload_n k => match ls[(k : Nat)]? with
    | some (some (.inr r)) => some (e.2.1, ls, .inr r :: st, M)
    | _ => none
  | .istore_n k => match st with
    | .inl x :: st => some (e.2.1, ls.set (k : Nat) (some (.inl x)), st, M)
    | _ => none
  | .istore k => match st with
    | .inl x :: st => some (e.2.1, ls.set k (some (.inl x)), st, M)
    | _ => none
  | .astore_n k => match st with
    | .inr x :: st => some (e.2.1, ls.set (k : Nat) (some (.inr x)), st, M)
    | _ => none
  | .iinc k n => match ls[k]? with
    | some (some (.inl x)) => some (e.2.1, ls.set k (some (.inl (x + Int32.ofInt n))), st, M)
    | _ => none
  | .iadd => match st with
    | .inl y :: .inl x :: st => some (e.2.1, ls, .inl (x + y) :: st, M)
    | _ => none
  | .isub => match st with
    | .inl y :: .inl x :: st => some (e.2.1, ls, .inl (x - y) :: st, M)
    | _ => none
  | .imul => match st with
    | .inl y :: .inl x :: st => some (e.2.1, ls, .inl (x * y) :: st, M)
    | _ => none
  | .iand => match st with
    | .inl y :: .inl x :: st => some (e.2.1, ls, .inl (x &&& y) :: st, M)
    | _ => none
  | .ior => match st with
    | .inl y :: .inl x :: st => some (e.2.1, ls, .inl (x ||| y) :: st, M)
    | _ => none
  | .ixor => match st with
    | .inl y :: .inl x :: st => some (e.2.1, ls, .inl (x ^^^ y) :: st, M)
    | _ => none
  | .ishl => match st with
    | .inl y :: .inl x :: st => some (e.2.1, ls, .inl (x <<< (y &&& 31)) :: st, M)
    | _ => none
  | .ishr => match st with
    | .inl y :: .inl x :: st => some (e.2.1, ls, .inl (x >>> (y &&& 31)) :: st, M)
    | _ => none
  | .ineg => match st with
    | .inl x :: st => some (e.2.1, ls, .inl (-x) :: st, M)
    | _ => none
  | .idiv => match st with
    | .inl y :: .inl x :: st => if y = 0 then none else some (e.2.1, ls, .inl (x / y) :: st, M)
    | _ => none
  | .irem => match st with
    | .inl y :: .inl x :: st => if y = 0 then none else some (e.2.1, ls, .inl (x - x / y * y) :: st, M)
    | _ => none
  | .dup => match st with
    | v :: st => some (e.2.1, ls, v :: v :: st, M)
    | _ => none
  | .pop => match st with
    | _ :: st => some (e.2.1, ls, st, M)
    | _ => none
  | .dup2 => match st with
    | a :: b :: st => some (e.2.1, ls, a :: b :: a :: b :: st, M)
    | _ => none
  | .dup_x1 => match st with
    | a :: b :: st => some (e.2.1, ls, a :: b :: a :: st, M)
    | _ => none
  | .getfield _ => match st with
    | .inr r :: st => match Nat.beq (e.2.2.1 / 100) r.1 with
      | true => match fj_lk e.2.2.1 fj_F with
        | some κ => some (e.2.1, ls, .inr (κ, r.2) :: st, M)
        | none => some (e.2.1, ls, .inl (fj_rd M (e.2.2.1 / 100) r.2 (e.2.2.1 % 100)) :: st, M)
      | false => none
    | _ => none
  | .putfield _ => match st with
    | .inl v :: .inr r :: st => match Nat.beq (e.2.2.1 / 100) r.1 with
      | true => match fj_lk e.2.2.1 fj_F with
        | some _ => none
        | none => some (e.2.1, ls, st, fj_up M (e.2.2.1 / 100) r.2 (e.2.2.1 % 100) v)
      | false => none
    | _ => none
  | .getstatic _ => some (e.2.1, ls, .inr (e.2.2.1, 0) :: st, M)
  | .iaload => match st with
    | .inl x :: .inr r :: st => match fj_ln X r.1 with
      | some n => if x < 0 ∨ n ≤ x.toNatClampNeg then none else some (e.2.1, ls, .inl (fj_gt X M r.1 r.2 x.toNatClampNeg) :: st, M)
      | none => none
    | _ => none
  | .iastore => match st with
    | .inl v :: .inl x :: .inr r :: st => match fj_lk r.1 fj_K with
      | some (_, 1, n, _) => if x < 0 ∨ n ≤ x.toNatClampNeg then none else some (e.2.1, ls, st, fj_up M r.1 r.2 x.toNatClampNeg v)
      | _ => none
    | _ => none
  | .aaload => match st with
    | .inl x :: .inr r :: st => match fj_lk r.1 fj_K with
      | some (_, 2, n, κ) => if x < 0 ∨ n ≤ x.toNatClampNeg then none else some (e.2.1, ls, .inr (κ, x.toNatClampNeg) :: st, M)
      | _ => none
    | _ => none
  | .arraylength => match st with
    | .inr r :: st => match fj_ln X r.1 with
      | some n => some (e.2.1, ls, .inl (Int32.ofNat n) :: st, M)
      | none => none
    | _ => none
  | .invokestatic _ => match Nat.beq e.2.2.1 999 with
    | true => match st with
      | .inl y :: .inl x :: st => some (e.2.1, ls, .inl (if y < x then y else x) :: st, M)
      | _ => none
    | false => none
  | .goto _ => some (e.2.2.1, ls, st, M)
  | .ifCond c _ => match st with
    | .inl x :: st => some (bif fj_cm c x 0 then e.2.2.1 else e.2.1, ls, st, M)
    | _ => none
  | .if_icmp c _ => match st with
    | .inl y :: .inl x :: st => some (bif fj_cm c x y then e.2.2.1 else e.2.1, ls, st, M)
    | _ => none
  | .tableswitch _ _ _ _ => match st with
    | .inl x :: st => some (fj_sw e.2.2.1 e.2.2.2 x, ls, st, M)
    | _ => none
  | .lookupswitch _ _ => match st with
    | .inl x :: st => some (fj_sw e.2.2.1 e.2.2.2 x, ls, st, M)
    | _ => none
  | _ => none
def fj_cut : Nat → List fj_V → List fj_V → Option (List fj_V × List fj_V)
  | 0, acc, st => some (acc, st)
  | _ + 1, _, [] => none
  | n + 1, acc, v :: st => fj_cut n (v :: acc) st
def fj_en (as : List fj_V) (n : Nat) : fj_L := as.map some ++ List.replicate (n - as.length) none
def fj_ps (r : Option Int32) (st : List fj_V) : List fj_V := match r with
  | some v => .inl v :: st
  | none => st
/-- the kind of a receiver, by the own number -/
def fj_rk (o : Nat) : Nat := match o with
  | 0 => 10
  | 4 => 7
  | 5 => 0
  | _ => 20
def fj_isr (κ : Nat) : List fj_V → Bool
  | .inr r :: _ => Nat.beq r.1 κ
  | _ => false
/-- no reference to the script -/
def fj_nX : fj_V → Bool
  | .inl _ => true
  | .inr r => Nat.ble r.1 41
/-- what comes: the end, the next frame, or a call and what goes on behind it -/
def fj_dec (X : fj_X) (c : fj_C) : Option (fj_R ⊕ (fj_C ⊕ (fj_C × (fj_R → fj_C)))) :=
  match fj_code c.1 c.2.1 with
  | none => none
  | some e => match e.1 with
    | .ireturn => match c.2.2.2.1 with
      | [.inl v] => match fj_rt c.1 with
        | 0 => none
        | 1 => some (.inl (some v, c.2.2.2.2))
        | _ => if v = 0 ∨ v = 1 then some (.inl (some v, c.2.2.2.2)) else none
      | _ => none
    | .return_ => match c.2.2.2.1 with
      | [] => match fj_rt c.1 with
        | 0 => some (.inl (none, c.2.2.2.2))
        | _ => none
      | _ => none
    | .invokevirtual _ => match fj_cut (fj_na e.2.2.1) [] c.2.2.2.1 with
      | some q => match fj_isr (fj_rk (fj_ow e.2.2.1)) q.1 && Nat.ble q.2.length 8 && !fj_sta e.2.2.1 && q.1.all fj_nX with
        | true => some (.inr (.inr ((e.2.2.1, 0, fj_en q.1 (fj_nL e.2.2.1), [], c.2.2.2.2), fun r => (c.1, e.2.1, c.2.2.1, fj_ps r.1 q.2, r.2))))
        | false => none
      | none => none
    | .invokestatic _ => match Nat.beq e.2.2.1 999 with
      | false => match fj_cut (fj_na e.2.2.1) [] c.2.2.2.1 with
        | some q => match Nat.ble q.2.length 8 && fj_sta e.2.2.1 && q.1.all fj_nX with
          | true => some (.inr (.inr ((e.2.2.1, 0, fj_en q.1 (fj_nL e.2.2.1), [], c.2.2.2.2), fun r => (c.1, e.2.1, c.2.2.1, fj_ps r.1 q.2, r.2))))
          | false => none
        | none => none
      | true => match Nat.ble c.2.2.2.1.length 10, fj_go X e c.2.2.1 c.2.2.2.1 c.2.2.2.2 with
        | true, some d => some (.inr (.inl (c.1, d)))
        | _, _ => none
    | _ => match fj_go X e c.2.2.1 c.2.2.2.1 c.2.2.2.2 with
      | some d => some (.inr (.inl (c.1, d)))
      | none => none
def fj_ex (X : fj_X) : Nat → fj_C → Option fj_R
  | 0, _ => none
  | n + 1, c => match fj_dec X c with
    | none => none
    | some (.inl r) => some r
    | some (.inr (.inl d)) => fj_ex X n d
    | some (.inr (.inr q)) => match fj_ex X n q.1 with
      | none => none
      | some r => fj_ex X n (q.2 r)
theorem fj_mono (X : fj_X) : ∀ (n : Nat) (c : fj_C) (r : fj_R), fj_ex X n c = some r → fj_ex X (n + 1) c = some r := by
  intro n
  induction n with
  | zero => intro c r h; simp [fj_ex] at h
  | succ n ih =>
    intro c r h
    rw [fj_ex] at h
    rw [fj_ex]
    cases hd : fj_dec X c with
    | none => rw [hd] at h; simp at h
    | some d =>
      rw [hd] at h
      match d with
      | .inl r' => exact h
      | .inr (.inl d) => exact ih d r h
      | .inr (.inr q) =>
        simp only at h ⊢
        cases hq : fj_ex X n q.1 with
        | none => rw [hq] at h; simp at h
        | some r1 =>
          rw [hq] at h
          simp only at h
          rw [ih _ _ hq]
          exact ih _ _ h
theorem fj_mono' (X : fj_X) {n m : Nat} (hm : n ≤ m) {c : fj_C} {r : fj_R} (h : fj_ex X n c = some r) : fj_ex X m c = some r := by
  induction hm with
  | refl => exact h
  | step _ ih => exact fj_mono X _ _ _ ih
/-- the frame c comes to the end r -/
def fj_ev (X : fj_X) (c : fj_C) (r : fj_R) : Prop := ∃ n, fj_ex X n c = some r
theorem fj_end {X : fj_X} {c : fj_C} {r : fj_R} (h : fj_dec X c = some (.inl r)) : fj_ev X c r := ⟨1, by rw [fj_ex, h]⟩
theorem fj_nx {X : fj_X} {c d : fj_C} {r : fj_R} (h : fj_dec X c = some (.inr (.inl d))) (k : fj_ev X d r) : fj_ev X c r := by
  obtain ⟨n, hn⟩ := k
  exact ⟨n + 1, by rw [fj_ex, h]; exact hn⟩
theorem fj_cl {X : fj_X} {c : fj_C} {q : fj_C × (fj_R → fj_C)} {r1 r : fj_R} (h : fj_dec X c = some (.inr (.inr q))) (h1 : fj_ev X q.1 r1) (k : fj_ev X (q.2 r1) r) : fj_ev X c r := by
  obtain ⟨n, hn⟩ := h1
  obtain ⟨m, hm⟩ := k
  refine ⟨max n m + 1, ?_⟩
  rw [fj_ex, h]
  simp only
  rw [fj_mono' X (Nat.le_max_left n m) hn]
  exact fj_mono' X (Nat.le_max_right n m) hm
