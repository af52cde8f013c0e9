/-! WHAT THE START IS: the statics, the first memory -/
set_option maxHeartbeats 2000000 in
set_option maxRecDepth 40000 in
theorem st_el_TAKES {args : Array Value} {s : State} (hs : ∀ c ∈ flatC (Jvm.Cond.and given_1 narrow_1), c.before args s = true) : ∀ j, j < 46 → (Term.elem (.static RX2 "TAKES" "[I") (.int (Int32.ofNat j))).eval args s none [] s = some (.int (fj_tk j))
  | 0, _ => va_eqt (hs _ (List.mem_of_getElem? (i := 7) rfl))
  | 1, _ => va_eqt (hs _ (List.mem_of_getElem? (i := 8) rfl))
  | 2, _ => va_eqt (hs _ (List.mem_of_getElem? (i := 9) rfl))
  | 3, _ => va_eqt (hs _ (List.mem_of_getElem? (i := 10) rfl))
  | 4, _ => va_eqt (hs _ (List.mem_of_getElem? (i := 11) rfl))
  | 5, _ => va_eqt (hs _ (List.mem_of_getElem? (i := 12) rfl))
  | 6, _ => va_eqt (hs _ (List.mem_of_getElem? (i := 13) rfl))
  | 7, _ => va_eqt (hs _ (List.mem_of_getElem? (i := 14) rfl))
  | 8, _ => va_eqt (hs _ (List.mem_of_getElem? (i := 15) rfl))
  | 9, _ => va_eqt (hs _ (List.mem_of_getElem? (i := 16) rfl))
  | 10, _ => va_eqt (hs _ (List.mem_of_getElem? (i := 17) rfl))
  | 11, _ => va_eqt (hs _ (List.mem_of_getElem? (i := 18) rfl))
  | 12, _ => va_eqt (hs _ (List.mem_of_getElem? (i := 19) rfl))
  | 13, _ => va_eqt (hs _ (List.mem_of_getElem? (i := 20) rfl))
  | 14, _ => va_eqt (hs _ (List.mem_of_getElem? (i := 21) rfl))
  | 15, _ => va_eqt (hs _ (List.mem_of_getElem? (i := 22) rfl))
  | 16, _ => va_eqt (hs _ (List.mem_of_getElem? (i := 23) rfl))
  | 17, _ => va_eqt (hs _ (List.mem_of_getElem? (i := 24) rfl))
  | 18, _ => va_eqt (hs _ (List.mem_of_getElem? (i := 25) rfl))
  | 19, _ => va_eqt (hs _ (List.mem_of_getElem? (i := 26) rfl))
  | 20, _ => va_eqt (hs _ (List.mem_of_getElem? (i := 27) rfl))
  | 21, _ => va_eqt (hs _ (List.mem_of_getElem? (i := 28) rfl))
  | 22, _ => va_eqt (hs _ (List.mem_of_getElem? (i := 29) rfl))
  | 23, _ => va_eqt (hs _ (List.mem_of_getElem? (i := 30) rfl))
  | 24, _ => va_eqt (hs _ (List.mem_of_getElem? (i := 31) rfl))
  | 25, _ => va_eqt (hs _ (List.mem_of_getElem? (i := 32) rfl))
  | 26, _ => va_eqt (hs _ (List.mem_of_getElem? (i := 33) rfl))
  | 27, _ => va_eqt (hs _ (List.mem_of_getElem? (i := 34) rfl))
  | 28, _ => va_eqt (hs _ (List.mem_of_getElem? (i := 35) rfl))
  | 29, _ => va_eqt (hs _ (List.mem_of_getElem? (i := 36) rfl))
  | 30, _ => va_eqt (hs _ (List.mem_of_getElem? (i := 37) rfl))
  | 31, _ => va_eqt (hs _ (List.mem_of_getElem? (i := 38) rfl))
  | 32, _ => va_eqt (hs _ (List.mem_of_getElem? (i := 39) rfl))
  | 33, _ => va_eqt (hs _ (List.mem_of_getElem? (i := 40) rfl))
  | 34, _ => va_eqt (hs _ (List.mem_of_getElem? (i := 41) rfl))
  | 35, _ => va_eqt (hs _ (List.mem_of_getElem? (i := 42) rfl))
  | 36, _ => va_eqt (hs _ (List.mem_of_getElem? (i := 43) rfl))
  | 37, _ => va_eqt (hs _ (List.mem_of_getElem? (i := 44) rfl))
  | 38, _ => va_eqt (hs _ (List.mem_of_getElem? (i := 45) rfl))
  | 39, _ => va_eqt (hs _ (List.mem_of_getElem? (i := 46) rfl))
  | 40, _ => va_eqt (hs _ (List.mem_of_getElem? (i := 47) rfl))
  | 41, _ => va_eqt (hs _ (List.mem_of_getElem? (i := 48) rfl))
  | 42, _ => va_eqt (hs _ (List.mem_of_getElem? (i := 49) rfl))
  | 43, _ => va_eqt (hs _ (List.mem_of_getElem? (i := 50) rfl))
  | 44, _ => va_eqt (hs _ (List.mem_of_getElem? (i := 51) rfl))
  | 45, _ => va_eqt (hs _ (List.mem_of_getElem? (i := 52) rfl))
  | k + 46, h => absurd h (by omega)
set_option maxRecDepth 40000 in
theorem st_T_TAKES {args : Array Value} {s : State} {A : Nat → Prop} (hs : ∀ c ∈ flatC (Jvm.Cond.and given_1 narrow_1), c.before args s = true) (hA : ∀ a : Nat, a < s.heap.size → ¬ A a) : ∃ t : Nat, (Term.static RX2 "TAKES" "[I").eval args s none [] s = some (.ref t) ∧ va_T .int t 46 (fun j => .int (fj_tk j)) A s s.heap := va_Tof (by decide) (hs _ (List.mem_of_getElem? (i := 5) rfl)) (va_eqt (hs _ (List.mem_of_getElem? (i := 6) rfl))) (st_el_TAKES hs) hA
set_option maxHeartbeats 2000000 in
set_option maxRecDepth 40000 in
theorem st_el_GIVES {args : Array Value} {s : State} (hs : ∀ c ∈ flatC (Jvm.Cond.and given_1 narrow_1), c.before args s = true) : ∀ j, j < 46 → (Term.elem (.static RX2 "GIVES" "[I") (.int (Int32.ofNat j))).eval args s none [] s = some (.int (fj_gv j))
  | 0, _ => va_eqt (hs _ (List.mem_of_getElem? (i := 56) rfl))
  | 1, _ => va_eqt (hs _ (List.mem_of_getElem? (i := 57) rfl))
  | 2, _ => va_eqt (hs _ (List.mem_of_getElem? (i := 58) rfl))
  | 3, _ => va_eqt (hs _ (List.mem_of_getElem? (i := 59) rfl))
  | 4, _ => va_eqt (hs _ (List.mem_of_getElem? (i := 60) rfl))
  | 5, _ => va_eqt (hs _ (List.mem_of_getElem? (i := 61) rfl))
  | 6, _ => va_eqt (hs _ (List.mem_of_getElem? (i := 62) rfl))
  | 7, _ => va_eqt (hs _ (List.mem_of_getElem? (i := 63) rfl))
  | 8, _ => va_eqt (hs _ (List.mem_of_getElem? (i := 64) rfl))
  | 9, _ => va_eqt (hs _ (List.mem_of_getElem? (i := 65) rfl))
  | 10, _ => va_eqt (hs _ (List.mem_of_getElem? (i := 66) rfl))
  | 11, _ => va_eqt (hs _ (List.mem_of_getElem? (i := 67) rfl))
  | 12, _ => va_eqt (hs _ (List.mem_of_getElem? (i := 68) rfl))
  | 13, _ => va_eqt (hs _ (List.mem_of_getElem? (i := 69) rfl))
  | 14, _ => va_eqt (hs _ (List.mem_of_getElem? (i := 70) rfl))
  | 15, _ => va_eqt (hs _ (List.mem_of_getElem? (i := 71) rfl))
  | 16, _ => va_eqt (hs _ (List.mem_of_getElem? (i := 72) rfl))
  | 17, _ => va_eqt (hs _ (List.mem_of_getElem? (i := 73) rfl))
  | 18, _ => va_eqt (hs _ (List.mem_of_getElem? (i := 74) rfl))
  | 19, _ => va_eqt (hs _ (List.mem_of_getElem? (i := 75) rfl))
  | 20, _ => va_eqt (hs _ (List.mem_of_getElem? (i := 76) rfl))
  | 21, _ => va_eqt (hs _ (List.mem_of_getElem? (i := 77) rfl))
  | 22, _ => va_eqt (hs _ (List.mem_of_getElem? (i := 78) rfl))
  | 23, _ => va_eqt (hs _ (List.mem_of_getElem? (i := 79) rfl))
  | 24, _ => va_eqt (hs _ (List.mem_of_getElem? (i := 80) rfl))
  | 25, _ => va_eqt (hs _ (List.mem_of_getElem? (i := 81) rfl))
  | 26, _ => va_eqt (hs _ (List.mem_of_getElem? (i := 82) rfl))
  | 27, _ => va_eqt (hs _ (List.mem_of_getElem? (i := 83) rfl))
  | 28, _ => va_eqt (hs _ (List.mem_of_getElem? (i := 84) rfl))
  | 29, _ => va_eqt (hs _ (List.mem_of_getElem? (i := 85) rfl))
  | 30, _ => va_eqt (hs _ (List.mem_of_getElem? (i := 86) rfl))
  | 31, _ => va_eqt (hs _ (List.mem_of_getElem? (i := 87) rfl))
  | 32, _ => va_eqt (hs _ (List.mem_of_getElem? (i := 88) rfl))
  | 33, _ => va_eqt (hs _ (List.mem_of_getElem? (i := 89) rfl))
  | 34, _ => va_eqt (hs _ (List.mem_of_getElem? (i := 90) rfl))
  | 35, _ => va_eqt (hs _ (List.mem_of_getElem? (i := 91) rfl))
  | 36, _ => va_eqt (hs _ (List.mem_of_getElem? (i := 92) rfl))
  | 37, _ => va_eqt (hs _ (List.mem_of_getElem? (i := 93) rfl))
  | 38, _ => va_eqt (hs _ (List.mem_of_getElem? (i := 94) rfl))
  | 39, _ => va_eqt (hs _ (List.mem_of_getElem? (i := 95) rfl))
  | 40, _ => va_eqt (hs _ (List.mem_of_getElem? (i := 96) rfl))
  | 41, _ => va_eqt (hs _ (List.mem_of_getElem? (i := 97) rfl))
  | 42, _ => va_eqt (hs _ (List.mem_of_getElem? (i := 98) rfl))
  | 43, _ => va_eqt (hs _ (List.mem_of_getElem? (i := 99) rfl))
  | 44, _ => va_eqt (hs _ (List.mem_of_getElem? (i := 100) rfl))
  | 45, _ => va_eqt (hs _ (List.mem_of_getElem? (i := 101) rfl))
  | k + 46, h => absurd h (by omega)
set_option maxRecDepth 40000 in
theorem st_T_GIVES {args : Array Value} {s : State} {A : Nat → Prop} (hs : ∀ c ∈ flatC (Jvm.Cond.and given_1 narrow_1), c.before args s = true) (hA : ∀ a : Nat, a < s.heap.size → ¬ A a) : ∃ t : Nat, (Term.static RX2 "GIVES" "[I").eval args s none [] s = some (.ref t) ∧ va_T .int t 46 (fun j => .int (fj_gv j)) A s s.heap := va_Tof (by decide) (hs _ (List.mem_of_getElem? (i := 54) rfl)) (va_eqt (hs _ (List.mem_of_getElem? (i := 55) rfl))) (st_el_GIVES hs) hA
set_option maxRecDepth 40000 in
theorem st_St {args : Array Value} {s : State} {A : Nat → Prop} (hts : ∀ w ∈ lw_tbl, w.before args s = true) (hs : ∀ c ∈ flatC (Jvm.Cond.and given_1 narrow_1), c.before args s = true) (hA : ∀ a : Nat, a < s.heap.size → ¬ A a) : ∃ t1 t2 : Nat, (va_Z RX2 "TAKES" "[I" (.ref t1) A s s.heap ∧ va_T .int t1 46 (fun j => .int (fj_tk j)) A s s.heap) ∧ va_Z RX2 "GIVES" "[I" (.ref t2) A s s.heap ∧ va_T .int t2 46 (fun j => .int (fj_gv j)) A s s.heap := by
  obtain ⟨t1, h1, h2⟩ := st_T_TAKES hs hA
  obtain ⟨t2, h3, h4⟩ := st_T_GIVES hs hA
  exact ⟨t1, t2, ⟨va_Zref (hts (.laysStatic RX2 "TAKES" "[I") (List.mem_of_getElem? (i := 332) rfl)) (hts (.initialized RX2) (List.mem_of_getElem? (i := 56) rfl)) h1 hA, h2⟩, va_Zref (hts (.laysStatic RX2 "GIVES" "[I") (List.mem_of_getElem? (i := 362) rfl)) (hts (.initialized RX2) (List.mem_of_getElem? (i := 56) rfl)) h3 hA, h4⟩
set_option maxRecDepth 40000 in
theorem st_nest {args : Array Value} {s : State} (hts : ∀ w ∈ lw_tbl, w.before args s = true) : va_AO RX4 s ∧ va_AO RX0 s ∧ va_Nw (.methodLinkNest RX5 41 yX4_init "TurnTasks") s ∧ va_Nw (.methodLinkNest RX5 42 yX0_init "TurnTasks") s := ⟨va_AO.of (hts (.arrayOver (.object RX4)) (List.mem_of_getElem? (i := 67) rfl)), va_AO.of (hts (.arrayOver (.object RX0)) (List.mem_of_getElem? (i := 69) rfl)), va_Nw.of rfl (hts (.methodLinkNest RX5 41 yX4_init "TurnTasks") (List.mem_of_getElem? (i := 71) rfl)), va_Nw.of rfl (hts (.methodLinkNest RX5 42 yX0_init "TurnTasks") (List.mem_of_getElem? (i := 124) rfl))⟩
/-! the first memory -/
def st_C : fj_N := fun κ _ j => match κ with
  | 0 => (match j with
    | 6 => 8
    | 7 => 2
    | _ => 0)
  | 7 => (match j with
    | 6 => -1
    | _ => 0)
  | 10 => (match j with
    | 2 => 4
    | _ => 0)
  | _ => 0
def st_N : fj_N := fun κ _ j => match κ with
  | 20 => (match j with
    | 22 => 8
    | 23 => 2
    | _ => 0)
  | 29 => st_f (-1) 12 j
  | 35 => st_f 4 6 j
  | _ => 0
theorem st_f_in {x : Int32} : ∀ {k j : Nat}, j < k → st_f x k j = x
  | 0, j, h => absurd h (Nat.not_lt_zero j)
  | k + 1, j, h => by
    show upd (st_f x k) k x j = x
    by_cases q : j = k
    · subst q
      exact pk_us
    · rw [pk_un q]
      exact st_f_in (by omega)
theorem st_R : qR (0, true) st_C st_N := by
  refine ⟨⟨⟨rfl, rfl, rfl, rfl, rfl, fun _ => rfl, rfl, rfl⟩, ⟨0, by omega, rfl⟩, 0, Nat.le_refl 0, rfl⟩, ⟨fun j _ => rfl, fun j _ => rfl, fun j _ => rfl⟩, fun i hi => ?_, fun c hc => ?_⟩
  · refine ⟨⟨rfl, rfl, rfl, rfl, st_f_in hi, rfl, ?_, rfl⟩, ⟨fun q => ?_, fun q => ?_⟩, ⟨0, by omega, rfl, fun j hj => absurd hj (Nat.not_lt_zero j)⟩, ⟨0, by omega, rfl, fun j hj => absurd hj (Nat.not_lt_zero j)⟩, ⟨0, by omega, rfl⟩, Or.inl rfl, fun q => ?_, fun q => ?_, fun q => ?_⟩
    · exact (if_neg (show ¬ st_C 7 i 2 = 5 from by show ¬ (0 : Int32) = 5; decide)).symm
    · exact absurd (show qx_w 0 from q) (by unfold qx_w; decide)
    · exact absurd (show (0 : Int32) = 4 from q) (by decide)
    · exact absurd (show (0 : Int32) = 2 ∨ (0 : Int32) = 3 ∨ (0 : Int32) = 4 from q) (by decide)
    · exact absurd (show (0 : Int32) = 4 from q) (by decide)
    · exact absurd (show (0 : Int32) = 6 from q) (by decide)
  · exact ⟨rfl, st_f_in hc, 0, 4, by omega, by omega, by omega, rfl, rfl, fun j hj => absurd hj (Nat.not_lt_zero j)⟩
theorem st_Wq : qW st_C := fun i hi q => absurd (show qx_w 0 from qh_there_w q) (by unfold qx_w; decide)
/-- the cells of references, told by the addresses -/
theorem st_cell {cA : ClassId} {n : Nat} {f f' : Nat → Option Nat} (h : ∀ j, j < n → f j = f' j) : vp_cell cA (n, .inr (.inr (.inr (.inr f)))) = vp_cell cA (n, .inr (.inr (.inr (.inr f')))) := by
  show arrV cA n (fun j => va_rf (f j)) = arrV cA n (fun j => va_rf (f' j))
  unfold arrV
  congr 2
  funext j
  show va_rf (f j.val) = va_rf (f' j.val)
  rw [h j.val j.isLt]
theorem st_12 {α : Type} : ∀ (T : List α), T.length = 12 → ∃ a b c d e f g h i j k l : α, T = [a, b, c, d, e, f, g, h, i, j, k, l]
  | [a, b, c, d, e, f, g, h, i, j, k, l], _ => ⟨a, b, c, d, e, f, g, h, i, j, k, l, rfl⟩
theorem st_6l {α : Type} : ∀ (T : List α), T.length = 6 → ∃ a b c d e f : α, T = [a, b, c, d, e, f]
  | [a, b, c, d, e, f], _ => ⟨a, b, c, d, e, f, rfl⟩
def st_ad (h0 h6 b t1 t2 : Nat) (qs v : Nat → Nat) (T : List (Nat × Nat × Nat)) (S : List (Nat × Nat)) : Nat → Nat → Nat := fun κ i => match κ with
  | 0 => h0
  | 1 => qs 1
  | 2 => qs 2
  | 3 => qs 3
  | 4 => qs 4
  | 5 => qs 5
  | 6 => qs 6
  | 7 => (T.getD i (0, 0, 0)).1
  | 8 => (T.getD i (0, 0, 0)).2.1
  | 9 => (T.getD i (0, 0, 0)).2.2
  | 10 => (S.getD i (0, 0)).1
  | 11 => (S.getD i (0, 0)).2
  | 20 => h6
  | 21 => v 1
  | 22 => v 2
  | 23 => v 3
  | 24 => v 4
  | 25 => v 5
  | 26 => v 6
  | 27 => v 7
  | 28 => v 8
  | 29 => v 9
  | 30 => v 10
  | 31 => v 11
  | 32 => v 12
  | 33 => v 13
  | 34 => v 14
  | 35 => v 15
  | 36 => v 16
  | 37 => v 17
  | 38 => v 18
  | 39 => v 19
  | 40 => t1
  | 41 => t2
  | _ => b
set_option maxHeartbeats 4000000 in
set_option maxRecDepth 100000 in
/-- the world that the constructors leave is the flat machine's first -/
theorem st_world {D : va_G} {A : Nat → Prop} {H : Heap} {h0 h6 b t1 t2 : Nat} {u : st_S} {v : Nat → Nat} (hu : st_post u) (hP : va_P D vwCl (st_6 h6 u.2.2.2.1 v ++ st_W h0 u) H) (hD : va_D A (st_6 h6 u.2.2.2.1 v ++ st_W h0 u)) : va_P D vwCl (fj_ws (st_ad h0 h6 b t1 t2 u.1 v u.2.1.1 u.2.1.2) u.2.2.2.1 (fun k => if k = 7 then u.2.2.2.2.1 else u.2.2.2.2.2) (st_C, st_N)) H ∧ va_D A (fj_ws (st_ad h0 h6 b t1 t2 u.1 v u.2.1.1 u.2.1.2) u.2.2.2.1 (fun k => if k = 7 then u.2.2.2.2.1 else u.2.2.2.2.2) (st_C, st_N)) := by
  obtain ⟨qs, ⟨T, S⟩, ⟨f, g⟩, cI, cT, cC⟩ := u
  obtain ⟨hT, hS, hf, hg⟩ := hu
  have hT : T.length = 12 := hT
  have hS : S.length = 6 := hS
  have hf : ∀ j, j < 12 → f j = (T[j]?).map (fun t => t.1) := hf
  have hg : ∀ j, j < 6 → g j = (S[j]?).map (fun t => t.1) := hg
  have hf2 : ∀ j, j < 12 → f j = some ((T.getD j (0, 0, 0)).1) := fun j hj => by
    rw [hf j hj, List.getElem?_eq_getElem (by omega), List.getD_eq_getElem?_getD, List.getElem?_eq_getElem (by omega)]
    rfl
  have hg2 : ∀ j, j < 6 → g j = some ((S.getD j (0, 0)).1) := fun j hj => by
    rw [hg j hj, List.getElem?_eq_getElem (by omega), List.getD_eq_getElem?_getD, List.getElem?_eq_getElem (by omega)]
    rfl
  have hP : va_P D vwCl (st_6 h6 cI v ++ st_W h0 (qs, (T, S), (f, g), (cI, cT, cC))) H := hP
  have hD : va_D A (st_6 h6 cI v ++ st_W h0 (qs, (T, S), (f, g), (cI, cT, cC))) := hD
  obtain ⟨t0, t1, t2, t3, t4, t5, t6, t7, t8, t9, t10, t11, rfl⟩ := st_12 T hT
  obtain ⟨c0, c1, c2, c3, c4, c5, rfl⟩ := st_6l S hS
  have hP := hP.set (p := 24) (a := qs 4) (e := .inl (cT, 12, .inr (.inr (.inr (.inr (fun j => some (([t0, t1, t2, t3, t4, t5, t6, t7, t8, t9, t10, t11].getD j (0, 0, 0)).1))))))) hD rfl ((hP 24 _ rfl).trans (congrArg some (st_cell hf2))) (fun _ _ => rfl)
  have hD := hD.set (p := 24) (a := qs 4) (e := .inl (cT, 12, .inr (.inr (.inr (.inr (fun j => some (([t0, t1, t2, t3, t4, t5, t6, t7, t8, t9, t10, t11].getD j (0, 0, 0)).1))))))) rfl
  have hP := hP.set (p := 25) (a := qs 5) (e := .inl (cC, 6, .inr (.inr (.inr (.inr (fun j => some (([c0, c1, c2, c3, c4, c5].getD j (0, 0)).1))))))) hD rfl ((hP 25 _ rfl).trans (congrArg some (st_cell hg2))) (fun _ _ => rfl)
  have hD := hD.set (p := 25) (a := qs 5) (e := .inl (cC, 6, .inr (.inr (.inr (.inr (fun j => some (([c0, c1, c2, c3, c4, c5].getD j (0, 0)).1))))))) rfl
  exact ⟨hP.sub [20, 21, 22, 23, 24, 25, 26, 27, 30, 33, 36, 39, 42, 45, 48, 51, 54, 57, 60, 28, 31, 34, 37, 40, 43, 46, 49, 52, 55, 58, 61, 29, 32, 35, 38, 41, 44, 47, 50, 53, 56, 59, 62, 63, 65, 67, 69, 71, 73, 64, 66, 68, 70, 72, 74, 0, 1, 2, 3, 4, 5, 6, 7, 8, 9, 10, 11, 12, 13, 14, 15, 16, 17, 18, 19] rfl, hD.sub [20, 21, 22, 23, 24, 25, 26, 27, 30, 33, 36, 39, 42, 45, 48, 51, 54, 57, 60, 28, 31, 34, 37, 40, 43, 46, 49, 52, 55, 58, 61, 29, 32, 35, 38, 41, 44, 47, 50, 53, 56, 59, 62, 63, 65, 67, 69, 71, 73, 64, 66, 68, 70, 72, 74, 0, 1, 2, 3, 4, 5, 6, 7, 8, 9, 10, 11, 12, 13, 14, 15, 16, 17, 18, 19] (by decide) rfl⟩
