/-! THE TABLES AGREE WITH THE CLAIM'S OWN DATA -/
theorem fj_lk_mem {α : Type} {p : Nat} {v : α} : ∀ {l : List (Nat × α)}, fj_lk p l = some v → (p, v) ∈ l
  | [], h => by simp [fj_lk] at h
  | q :: r, h => by
    unfold fj_lk at h
    cases hb : Nat.beq p q.1 with
    | true =>
      rw [hb] at h
      have hp : p = q.1 := Nat.eq_of_beq_eq_true hb
      cases h
      rw [hp]
      exact List.mem_cons_self
    | false =>
      rw [hb] at h
      exact List.mem_cons_of_mem _ (fj_lk_mem h)
/-- how long an instruction is (switches apart) -/
def fj_li : Instr → Nat
  | .bipush _ => 2
  | .sipush _ => 3
  | .ldc _ => 2
  | .ldc_w _ => 3
  | .iload _ => 2
  | .istore _ => 2
  | .iinc _ _ => 3
  | .getfield _ => 3
  | .putfield _ => 3
  | .getstatic _ => 3
  | .goto _ => 3
  | .ifCond _ _ => 3
  | .if_icmp _ _ => 3
  | .invokevirtual _ => 3
  | .invokestatic _ => 3
  | _ => 1
def fj_isw : Instr → Bool
  | .tableswitch _ _ _ _ => true
  | .lookupswitch _ _ => true
  | _ => false
def fj_rm (k : Nat) : Room := { frames := fj_fr k, cells := 0, slots := 0, locals := fj_lc k }
def fj_ret (k : Nat) : Option FieldType := match fj_rt k with
  | 0 => none
  | 1 => some .int
  | _ => some .boolean
def fj_okx (k : Nat) (pc : Nat) (e : fj_I) : Bool := match e.1 with
  | .goto off => decide ((pc : Int) + off = (e.2.2.1 : Int))
  | .ifCond _ off => decide ((pc : Int) + off = (e.2.2.1 : Int))
  | .if_icmp _ off => decide ((pc : Int) + off = (e.2.2.1 : Int))
  | .istore_n i => decide ((i : Nat) < fj_nL k)
  | .istore i => decide (i < fj_nL k)
  | .astore_n i => decide ((i : Nat) < fj_nL k)
  | .iinc i _ => decide (i < fj_nL k)
  | .ldc i => decide (i < 1000) && decide ((fj_lk (fj_ow k * 1000 + i) fj_con).map (fun v => [(v, 0)]) = some e.2.2.2)
  | .ldc_w i => decide (i < 1000) && decide ((fj_lk (fj_ow k * 1000 + i) fj_con).map (fun v => [(v, 0)]) = some e.2.2.2)
  | .getfield i => decide (i < 1000) && decide (fj_lk (fj_ow k * 1000 + i) fj_fl = some (e.2.2.1 / 100, e.2.2.1 % 100))
  | .putfield i => decide (i < 1000) && decide (fj_lk (fj_ow k * 1000 + i) fj_fl = some (e.2.2.1 / 100, e.2.2.1 % 100))
  | .getstatic i => decide (i < 1000) && decide (fj_lk (fj_ow k * 1000 + i) fj_sl = some e.2.2.1)
  | .invokevirtual i => decide (i < 1000) && decide (fj_lk (fj_ow k * 1000 + i) fj_ml = some e.2.2.1) && decide (fj_fr e.2.2.1 + 1 ≤ fj_fr k) && decide (8 + (fj_nL e.2.2.1 + 11) + fj_lc e.2.2.1 ≤ fj_lc k)
  | .invokestatic i => decide (i < 1000) && (bif Nat.beq e.2.2.1 999 then decide (fj_ow k * 1000 + i = fj_min) && decide (1 ≤ fj_fr k) && decide (8 + 13 ≤ fj_lc k) else decide (fj_lk (fj_ow k * 1000 + i) fj_ml = some e.2.2.1) && decide (fj_fr e.2.2.1 + 1 ≤ fj_fr k) && decide (8 + (fj_nL e.2.2.1 + 11) + fj_lc e.2.2.1 ≤ fj_lc k))
  | .tableswitch d lo hi offs => decide ((pc : Int) + d = (e.2.2.1 : Int)) && decide (hi = lo + e.2.2.2.length - 1) && (List.range e.2.2.2.length).all (fun i => match e.2.2.2[i]?, offs[i]? with
    | some s, some off => decide (s.1.toInt = lo + i) && decide ((pc : Int) + off = (s.2 : Int))
    | _, _ => false)
  | .lookupswitch d ps => decide ((pc : Int) + d = (e.2.2.1 : Int)) && (ps.toList.zip (ps.toList.drop 1)).all (fun (a, next) => a.1 < next.1) && decide (ps.toList.length = e.2.2.2.length) && (ps.toList.zip e.2.2.2).all (fun q => decide (q.2.1.toInt = q.1.1) && decide ((pc : Int) + q.1.2 = (q.2.2 : Int)))
  | _ => true
def fj_ok (k : Nat) (q : Nat × fj_I) : Bool := decide (decode (fj_b k) q.1 = .ok (q.2.1, q.2.2.1 - q.1)) && (fj_isw q.2.1 || decide (q.2.2.1 = q.1 + fj_li q.2.1)) && fj_okx k q.1 q.2
theorem fj_ok0 : fj_c0.all (fj_ok 0) = true := by decide +kernel
theorem fj_ok1 : fj_c1.all (fj_ok 1) = true := by decide +kernel
theorem fj_ok2 : fj_c2.all (fj_ok 2) = true := by decide +kernel
theorem fj_ok3 : fj_c3.all (fj_ok 3) = true := by decide +kernel
theorem fj_ok4 : fj_c4.all (fj_ok 4) = true := by decide +kernel
theorem fj_ok5 : fj_c5.all (fj_ok 5) = true := by decide +kernel
theorem fj_ok6 : fj_c6.all (fj_ok 6) = true := by decide +kernel
theorem fj_ok7 : fj_c7.all (fj_ok 7) = true := by decide +kernel
theorem fj_ok8 : fj_c8.all (fj_ok 8) = true := by decide +kernel
theorem fj_ok9 : fj_c9.all (fj_ok 9) = true := by decide +kernel
theorem fj_ok10 : fj_c10.all (fj_ok 10) = true := by decide +kernel
theorem fj_ok11 : fj_c11.all (fj_ok 11) = true := by decide +kernel
theorem fj_ok12 : fj_c12.all (fj_ok 12) = true := by decide +kernel
theorem fj_ok13 : fj_c13.all (fj_ok 13) = true := by decide +kernel
theorem fj_ok14 : fj_c14.all (fj_ok 14) = true := by decide +kernel
theorem fj_ok15 : fj_c15.all (fj_ok 15) = true := by decide +kernel
theorem fj_ok16 : fj_c16.all (fj_ok 16) = true := by decide +kernel
theorem fj_ok17 : fj_c17.all (fj_ok 17) = true := by decide +kernel
theorem fj_ok18 : fj_c18.all (fj_ok 18) = true := by decide +kernel
theorem fj_ok19 : fj_c19.all (fj_ok 19) = true := by decide +kernel
theorem fj_ok20 : fj_c20.all (fj_ok 20) = true := by decide +kernel
theorem fj_ok21 : fj_c21.all (fj_ok 21) = true := by decide +kernel
theorem fj_ok22 : fj_c22.all (fj_ok 22) = true := by decide +kernel
theorem fj_ok23 : fj_c23.all (fj_ok 23) = true := by decide +kernel
theorem fj_ok24 : fj_c24.all (fj_ok 24) = true := by decide +kernel
theorem fj_ok25 : fj_c25.all (fj_ok 25) = true := by decide +kernel
theorem fj_ok26 : fj_c26.all (fj_ok 26) = true := by decide +kernel
theorem fj_ok27 : fj_c27.all (fj_ok 27) = true := by decide +kernel
theorem fj_ok28 : fj_c28.all (fj_ok 28) = true := by decide +kernel
theorem fj_ok29 : fj_c29.all (fj_ok 29) = true := by decide +kernel
theorem fj_ok30 : fj_c30.all (fj_ok 30) = true := by decide +kernel
theorem fj_ok31 : fj_c31.all (fj_ok 31) = true := by decide +kernel
theorem fj_ok32 : fj_c32.all (fj_ok 32) = true := by decide +kernel
theorem fj_ok33 : fj_c33.all (fj_ok 33) = true := by decide +kernel
theorem fj_ok34 : fj_c34.all (fj_ok 34) = true := by decide +kernel
theorem fj_ok35 : fj_c35.all (fj_ok 35) = true := by decide +kernel
theorem fj_ok36 : fj_c36.all (fj_ok 36) = true := by decide +kernel
theorem fj_ok37 : fj_c37.all (fj_ok 37) = true := by decide +kernel
theorem fj_ok38 : fj_c38.all (fj_ok 38) = true := by decide +kernel
theorem fj_ok39 : fj_c39.all (fj_ok 39) = true := by decide +kernel
theorem fj_ok40 : fj_c40.all (fj_ok 40) = true := by decide +kernel
theorem fj_ok41 : fj_c41.all (fj_ok 41) = true := by decide +kernel
theorem fj_ok42 : fj_c42.all (fj_ok 42) = true := by decide +kernel
theorem fj_ok43 : fj_c43.all (fj_ok 43) = true := by decide +kernel
theorem fj_ok44 : fj_c44.all (fj_ok 44) = true := by decide +kernel
theorem fj_ok45 : fj_c45.all (fj_ok 45) = true := by decide +kernel
theorem fj_ok46 : fj_c46.all (fj_ok 46) = true := by decide +kernel
theorem fj_ok47 : fj_c47.all (fj_ok 47) = true := by decide +kernel
theorem fj_ok48 : fj_c48.all (fj_ok 48) = true := by decide +kernel
theorem fj_ok49 : fj_c49.all (fj_ok 49) = true := by decide +kernel
theorem fj_ok50 : fj_c50.all (fj_ok 50) = true := by decide +kernel
theorem fj_ok51 : fj_c51.all (fj_ok 51) = true := by decide +kernel
theorem fj_ok52 : fj_c52.all (fj_ok 52) = true := by decide +kernel
theorem fj_ok53 : fj_c53.all (fj_ok 53) = true := by decide +kernel
theorem fj_ok54 : fj_c54.all (fj_ok 54) = true := by decide +kernel
theorem fj_ok55 : fj_c55.all (fj_ok 55) = true := by decide +kernel
theorem fj_ok56 : fj_c56.all (fj_ok 56) = true := by decide +kernel
theorem fj_ok57 : fj_c57.all (fj_ok 57) = true := by decide +kernel
theorem fj_ok58 : fj_c58.all (fj_ok 58) = true := by decide +kernel
theorem fj_ok59 : fj_c59.all (fj_ok 59) = true := by decide +kernel
theorem fj_ok60 : fj_c60.all (fj_ok 60) = true := by decide +kernel
theorem fj_ok61 : fj_c61.all (fj_ok 61) = true := by decide +kernel
theorem fj_ok62 : fj_c62.all (fj_ok 62) = true := by decide +kernel
theorem fj_ok63 : fj_c63.all (fj_ok 63) = true := by decide +kernel
theorem fj_ok64 : fj_c64.all (fj_ok 64) = true := by decide +kernel
theorem fj_ok65 : fj_c65.all (fj_ok 65) = true := by decide +kernel
theorem fj_ok66 : fj_c66.all (fj_ok 66) = true := by decide +kernel
theorem fj_ok67 : fj_c67.all (fj_ok 67) = true := by decide +kernel
theorem fj_ok68 : fj_c68.all (fj_ok 68) = true := by decide +kernel
theorem fj_ok69 : fj_c69.all (fj_ok 69) = true := by decide +kernel
theorem fj_ok70 : fj_c70.all (fj_ok 70) = true := by decide +kernel
theorem fj_ok71 : fj_c71.all (fj_ok 71) = true := by decide +kernel
theorem fj_ok72 : fj_c72.all (fj_ok 72) = true := by decide +kernel
theorem fj_ok73 : fj_c73.all (fj_ok 73) = true := by decide +kernel
theorem fj_ok74 : fj_c74.all (fj_ok 74) = true := by decide +kernel
theorem fj_ok75 : fj_c75.all (fj_ok 75) = true := by decide +kernel
theorem fj_ok76 : fj_c76.all (fj_ok 76) = true := by decide +kernel
theorem fj_ok77 : fj_c77.all (fj_ok 77) = true := by decide +kernel
theorem fj_ok78 : fj_c78.all (fj_ok 78) = true := by decide +kernel
theorem fj_ok79 : fj_c79.all (fj_ok 79) = true := by decide +kernel
theorem fj_ok80 : fj_c80.all (fj_ok 80) = true := by decide +kernel
theorem fj_ok81 : fj_c81.all (fj_ok 81) = true := by decide +kernel
theorem fj_ok82 : fj_c82.all (fj_ok 82) = true := by decide +kernel
theorem fj_ok83 : fj_c83.all (fj_ok 83) = true := by decide +kernel
theorem fj_ok84 : fj_c84.all (fj_ok 84) = true := by decide +kernel
theorem fj_ok85 : fj_c85.all (fj_ok 85) = true := by decide +kernel
theorem fj_ok86 : fj_c86.all (fj_ok 86) = true := by decide +kernel
theorem fj_ok87 : fj_c87.all (fj_ok 87) = true := by decide +kernel
theorem fj_ok88 : fj_c88.all (fj_ok 88) = true := by decide +kernel
theorem fj_ok89 : fj_c89.all (fj_ok 89) = true := by decide +kernel
theorem fj_ok90 : fj_c90.all (fj_ok 90) = true := by decide +kernel
theorem fj_ok91 : fj_c91.all (fj_ok 91) = true := by decide +kernel
theorem fj_ok92 : fj_c92.all (fj_ok 92) = true := by decide +kernel
theorem fj_ok93 : fj_c93.all (fj_ok 93) = true := by decide +kernel
theorem fj_ok94 : fj_c94.all (fj_ok 94) = true := by decide +kernel
theorem fj_ok95 : fj_c95.all (fj_ok 95) = true := by decide +kernel
theorem fj_ok96 : fj_c96.all (fj_ok 96) = true := by decide +kernel
theorem fj_ok97 : fj_c97.all (fj_ok 97) = true := by decide +kernel
theorem fj_ok98 : fj_c98.all (fj_ok 98) = true := by decide +kernel
theorem fj_ok99 : fj_c99.all (fj_ok 99) = true := by decide +kernel
theorem fj_ok100 : fj_c100.all (fj_ok 100) = true := by decide +kernel
theorem fj_ok101 : fj_c101.all (fj_ok 101) = true := by decide +kernel
theorem fj_ok102 : fj_c102.all (fj_ok 102) = true := by decide +kernel
theorem fj_ok103 : fj_c103.all (fj_ok 103) = true := by decide +kernel
theorem fj_ok104 : fj_c104.all (fj_ok 104) = true := by decide +kernel
theorem fj_ok105 : fj_c105.all (fj_ok 105) = true := by decide +kernel
theorem fj_ok106 : fj_c106.all (fj_ok 106) = true := by decide +kernel
theorem fj_ok107 : fj_c107.all (fj_ok 107) = true := by decide +kernel
theorem fj_ok108 : fj_c108.all (fj_ok 108) = true := by decide +kernel
theorem fj_ok109 : fj_c109.all (fj_ok 109) = true := by decide +kernel
theorem fj_ok110 : fj_c110.all (fj_ok 110) = true := by decide +kernel
theorem fj_ok111 : fj_c111.all (fj_ok 111) = true := by decide +kernel
theorem fj_ok112 : fj_c112.all (fj_ok 112) = true := by decide +kernel
theorem fj_ok113 : fj_c113.all (fj_ok 113) = true := by decide +kernel
theorem fj_ok114 : fj_c114.all (fj_ok 114) = true := by decide +kernel
theorem fj_ok115 : fj_c115.all (fj_ok 115) = true := by decide +kernel
theorem fj_ok116 : fj_c116.all (fj_ok 116) = true := by decide +kernel
theorem fj_ok117 : fj_c117.all (fj_ok 117) = true := by decide +kernel
theorem fj_ok118 : fj_c118.all (fj_ok 118) = true := by decide +kernel
theorem fj_ok119 : fj_c119.all (fj_ok 119) = true := by decide +kernel
theorem fj_ok120 : fj_c120.all (fj_ok 120) = true := by decide +kernel
theorem fj_ok121 : fj_c121.all (fj_ok 121) = true := by decide +kernel
theorem fj_ok122 : fj_c122.all (fj_ok 122) = true := by decide +kernel
theorem fj_ok123 : fj_c123.all (fj_ok 123) = true := by decide +kernel
def fj_tabs_0 : List (Nat × List (Nat × fj_I)) := [(0, fj_c0), (1, fj_c1), (2, fj_c2), (3, fj_c3), (4, fj_c4), (5, fj_c5), (6, fj_c6), (7, fj_c7), (8, fj_c8), (9, fj_c9), (10, fj_c10), (11, fj_c11), (12, fj_c12), (13, fj_c13), (14, fj_c14), (15, fj_c15), (16, fj_c16), (17, fj_c17), (18, fj_c18), (19, fj_c19), (20, fj_c20), (21, fj_c21), (22, fj_c22), (23, fj_c23), (24, fj_c24)]
theorem fj_oks_0 : ∀ q ∈ fj_tabs_0, q.2.all (fj_ok q.1) = true := List.forall_mem_cons.mpr ⟨fj_ok0, List.forall_mem_cons.mpr ⟨fj_ok1, List.forall_mem_cons.mpr ⟨fj_ok2, List.forall_mem_cons.mpr ⟨fj_ok3, List.forall_mem_cons.mpr ⟨fj_ok4, List.forall_mem_cons.mpr ⟨fj_ok5, List.forall_mem_cons.mpr ⟨fj_ok6, List.forall_mem_cons.mpr ⟨fj_ok7, List.forall_mem_cons.mpr ⟨fj_ok8, List.forall_mem_cons.mpr ⟨fj_ok9, List.forall_mem_cons.mpr ⟨fj_ok10, List.forall_mem_cons.mpr ⟨fj_ok11, List.forall_mem_cons.mpr ⟨fj_ok12, List.forall_mem_cons.mpr ⟨fj_ok13, List.forall_mem_cons.mpr ⟨fj_ok14, List.forall_mem_cons.mpr ⟨fj_ok15, List.forall_mem_cons.mpr ⟨fj_ok16, List.forall_mem_cons.mpr ⟨fj_ok17, List.forall_mem_cons.mpr ⟨fj_ok18, List.forall_mem_cons.mpr ⟨fj_ok19, List.forall_mem_cons.mpr ⟨fj_ok20, List.forall_mem_cons.mpr ⟨fj_ok21, List.forall_mem_cons.mpr ⟨fj_ok22, List.forall_mem_cons.mpr ⟨fj_ok23, List.forall_mem_cons.mpr ⟨fj_ok24, fun _ h => absurd h List.not_mem_nil⟩⟩⟩⟩⟩⟩⟩⟩⟩⟩⟩⟩⟩⟩⟩⟩⟩⟩⟩⟩⟩⟩⟩⟩⟩
def fj_tabs_1 : List (Nat × List (Nat × fj_I)) := [(25, fj_c25), (26, fj_c26), (27, fj_c27), (28, fj_c28), (29, fj_c29), (30, fj_c30), (31, fj_c31), (32, fj_c32), (33, fj_c33), (34, fj_c34), (35, fj_c35), (36, fj_c36), (37, fj_c37), (38, fj_c38), (39, fj_c39), (40, fj_c40), (41, fj_c41), (42, fj_c42), (43, fj_c43), (44, fj_c44), (45, fj_c45), (46, fj_c46), (47, fj_c47), (48, fj_c48), (49, fj_c49)]
theorem fj_oks_1 : ∀ q ∈ fj_tabs_1, q.2.all (fj_ok q.1) = true := List.forall_mem_cons.mpr ⟨fj_ok25, List.forall_mem_cons.mpr ⟨fj_ok26, List.forall_mem_cons.mpr ⟨fj_ok27, List.forall_mem_cons.mpr ⟨fj_ok28, List.forall_mem_cons.mpr ⟨fj_ok29, List.forall_mem_cons.mpr ⟨fj_ok30, List.forall_mem_cons.mpr ⟨fj_ok31, List.forall_mem_cons.mpr ⟨fj_ok32, List.forall_mem_cons.mpr ⟨fj_ok33, List.forall_mem_cons.mpr ⟨fj_ok34, List.forall_mem_cons.mpr ⟨fj_ok35, List.forall_mem_cons.mpr ⟨fj_ok36, List.forall_mem_cons.mpr ⟨fj_ok37, List.forall_mem_cons.mpr ⟨fj_ok38, List.forall_mem_cons.mpr ⟨fj_ok39, List.forall_mem_cons.mpr ⟨fj_ok40, List.forall_mem_cons.mpr ⟨fj_ok41, List.forall_mem_cons.mpr ⟨fj_ok42, List.forall_mem_cons.mpr ⟨fj_ok43, List.forall_mem_cons.mpr ⟨fj_ok44, List.forall_mem_cons.mpr ⟨fj_ok45, List.forall_mem_cons.mpr ⟨fj_ok46, List.forall_mem_cons.mpr ⟨fj_ok47, List.forall_mem_cons.mpr ⟨fj_ok48, List.forall_mem_cons.mpr ⟨fj_ok49, fun _ h => absurd h List.not_mem_nil⟩⟩⟩⟩⟩⟩⟩⟩⟩⟩⟩⟩⟩⟩⟩⟩⟩⟩⟩⟩⟩⟩⟩⟩⟩
def fj_tabs_2 : List (Nat × List (Nat × fj_I)) := [(50, fj_c50), (51, fj_c51), (52, fj_c52), (53, fj_c53), (54, fj_c54), (55, fj_c55), (56, fj_c56), (57, fj_c57), (58, fj_c58), (59, fj_c59), (60, fj_c60), (61, fj_c61), (62, fj_c62), (63, fj_c63), (64, fj_c64), (65, fj_c65), (66, fj_c66), (67, fj_c67), (68, fj_c68), (69, fj_c69), (70, fj_c70), (71, fj_c71), (72, fj_c72), (73, fj_c73), (74, fj_c74)]
theorem fj_oks_2 : ∀ q ∈ fj_tabs_2, q.2.all (fj_ok q.1) = true := List.forall_mem_cons.mpr ⟨fj_ok50, List.forall_mem_cons.mpr ⟨fj_ok51, List.forall_mem_cons.mpr ⟨fj_ok52, List.forall_mem_cons.mpr ⟨fj_ok53, List.forall_mem_cons.mpr ⟨fj_ok54, List.forall_mem_cons.mpr ⟨fj_ok55, List.forall_mem_cons.mpr ⟨fj_ok56, List.forall_mem_cons.mpr ⟨fj_ok57, List.forall_mem_cons.mpr ⟨fj_ok58, List.forall_mem_cons.mpr ⟨fj_ok59, List.forall_mem_cons.mpr ⟨fj_ok60, List.forall_mem_cons.mpr ⟨fj_ok61, List.forall_mem_cons.mpr ⟨fj_ok62, List.forall_mem_cons.mpr ⟨fj_ok63, List.forall_mem_cons.mpr ⟨fj_ok64, List.forall_mem_cons.mpr ⟨fj_ok65, List.forall_mem_cons.mpr ⟨fj_ok66, List.forall_mem_cons.mpr ⟨fj_ok67, List.forall_mem_cons.mpr ⟨fj_ok68, List.forall_mem_cons.mpr ⟨fj_ok69, List.forall_mem_cons.mpr ⟨fj_ok70, List.forall_mem_cons.mpr ⟨fj_ok71, List.forall_mem_cons.mpr ⟨fj_ok72, List.forall_mem_cons.mpr ⟨fj_ok73, List.forall_mem_cons.mpr ⟨fj_ok74, fun _ h => absurd h List.not_mem_nil⟩⟩⟩⟩⟩⟩⟩⟩⟩⟩⟩⟩⟩⟩⟩⟩⟩⟩⟩⟩⟩⟩⟩⟩⟩
def fj_tabs_3 : List (Nat × List (Nat × fj_I)) := [(75, fj_c75), (76, fj_c76), (77, fj_c77), (78, fj_c78), (79, fj_c79), (80, fj_c80), (81, fj_c81), (82, fj_c82), (83, fj_c83), (84, fj_c84), (85, fj_c85), (86, fj_c86), (87, fj_c87), (88, fj_c88), (89, fj_c89), (90, fj_c90), (91, fj_c91), (92, fj_c92), (93, fj_c93), (94, fj_c94), (95, fj_c95), (96, fj_c96), (97, fj_c97), (98, fj_c98), (99, fj_c99)]
theorem fj_oks_3 : ∀ q ∈ fj_tabs_3, q.2.all (fj_ok q.1) = true := List.forall_mem_cons.mpr ⟨fj_ok75, List.forall_mem_cons.mpr ⟨fj_ok76, List.forall_mem_cons.mpr ⟨fj_ok77, List.forall_mem_cons.mpr ⟨fj_ok78, List.forall_mem_cons.mpr ⟨fj_ok79, List.forall_mem_cons.mpr ⟨fj_ok80, List.forall_mem_cons.mpr ⟨fj_ok81, List.forall_mem_cons.mpr ⟨fj_ok82, List.forall_mem_cons.mpr ⟨fj_ok83, List.forall_mem_cons.mpr ⟨fj_ok84, List.forall_mem_cons.mpr ⟨fj_ok85, List.forall_mem_cons.mpr ⟨fj_ok86, List.forall_mem_cons.mpr ⟨fj_ok87, List.forall_mem_cons.mpr ⟨fj_ok88, List.forall_mem_cons.mpr ⟨fj_ok89, List.forall_mem_cons.mpr ⟨fj_ok90, List.forall_mem_cons.mpr ⟨fj_ok91, List.forall_mem_cons.mpr ⟨fj_ok92, List.forall_mem_cons.mpr ⟨fj_ok93, List.forall_mem_cons.mpr ⟨fj_ok94, List.forall_mem_cons.mpr ⟨fj_ok95, List.forall_mem_cons.mpr ⟨fj_ok96, List.forall_mem_cons.mpr ⟨fj_ok97, List.forall_mem_cons.mpr ⟨fj_ok98, List.forall_mem_cons.mpr ⟨fj_ok99, fun _ h => absurd h List.not_mem_nil⟩⟩⟩⟩⟩⟩⟩⟩⟩⟩⟩⟩⟩⟩⟩⟩⟩⟩⟩⟩⟩⟩⟩⟩⟩
def fj_tabs_4 : List (Nat × List (Nat × fj_I)) := [(100, fj_c100), (101, fj_c101), (102, fj_c102), (103, fj_c103), (104, fj_c104), (105, fj_c105), (106, fj_c106), (107, fj_c107), (108, fj_c108), (109, fj_c109), (110, fj_c110), (111, fj_c111), (112, fj_c112), (113, fj_c113), (114, fj_c114), (115, fj_c115), (116, fj_c116), (117, fj_c117), (118, fj_c118), (119, fj_c119), (120, fj_c120), (121, fj_c121), (122, fj_c122), (123, fj_c123)]
theorem fj_oks_4 : ∀ q ∈ fj_tabs_4, q.2.all (fj_ok q.1) = true := List.forall_mem_cons.mpr ⟨fj_ok100, List.forall_mem_cons.mpr ⟨fj_ok101, List.forall_mem_cons.mpr ⟨fj_ok102, List.forall_mem_cons.mpr ⟨fj_ok103, List.forall_mem_cons.mpr ⟨fj_ok104, List.forall_mem_cons.mpr ⟨fj_ok105, List.forall_mem_cons.mpr ⟨fj_ok106, List.forall_mem_cons.mpr ⟨fj_ok107, List.forall_mem_cons.mpr ⟨fj_ok108, List.forall_mem_cons.mpr ⟨fj_ok109, List.forall_mem_cons.mpr ⟨fj_ok110, List.forall_mem_cons.mpr ⟨fj_ok111, List.forall_mem_cons.mpr ⟨fj_ok112, List.forall_mem_cons.mpr ⟨fj_ok113, List.forall_mem_cons.mpr ⟨fj_ok114, List.forall_mem_cons.mpr ⟨fj_ok115, List.forall_mem_cons.mpr ⟨fj_ok116, List.forall_mem_cons.mpr ⟨fj_ok117, List.forall_mem_cons.mpr ⟨fj_ok118, List.forall_mem_cons.mpr ⟨fj_ok119, List.forall_mem_cons.mpr ⟨fj_ok120, List.forall_mem_cons.mpr ⟨fj_ok121, List.forall_mem_cons.mpr ⟨fj_ok122, List.forall_mem_cons.mpr ⟨fj_ok123, fun _ h => absurd h List.not_mem_nil⟩⟩⟩⟩⟩⟩⟩⟩⟩⟩⟩⟩⟩⟩⟩⟩⟩⟩⟩⟩⟩⟩⟩⟩
theorem fj_tabs_eq : fj_tabs = fj_tabs_0 ++ (fj_tabs_1 ++ (fj_tabs_2 ++ (fj_tabs_3 ++ (fj_tabs_4)))) := rfl
theorem fj_oks : ∀ q ∈ fj_tabs, q.2.all (fj_ok q.1) = true := by
  rw [fj_tabs_eq]
  exact List.forall_mem_append.mpr ⟨fj_oks_0, List.forall_mem_append.mpr ⟨fj_oks_1, List.forall_mem_append.mpr ⟨fj_oks_2, List.forall_mem_append.mpr ⟨fj_oks_3, fj_oks_4⟩⟩⟩⟩
set_option maxRecDepth 40000 in
theorem fj_code_ok {k pc : Nat} {e : fj_I} (h : fj_code k pc = some e) : fj_ok k (pc, e) = true := by
  unfold fj_code at h
  cases ht : fj_lk k fj_tabs with
  | none => rw [ht] at h; cases h
  | some t =>
    rw [ht] at h
    have h1 := fj_oks _ (fj_lk_mem ht)
    exact List.all_eq_true.mp h1 _ (fj_lk_mem h)
theorem fj_dc {k pc : Nat} {e : fj_I} (h : fj_code k pc = some e) (hs : fj_isw e.1 = false) : decode (fj_b k) pc = .ok (e.1, fj_li e.1) ∧ e.2.1 = pc + fj_li e.1 := by
  have h1 := fj_code_ok h
  simp only [fj_ok, hs, Bool.and_eq_true, Bool.or_eq_true, decide_eq_true_eq, Bool.false_eq_true, false_or] at h1
  obtain ⟨⟨h2, h3⟩, -⟩ := h1
  refine ⟨?_, h3⟩
  rw [h2, h3]
  simp
theorem fj_dx {k pc : Nat} {e : fj_I} (h : fj_code k pc = some e) : fj_okx k pc e = true := by
  have h1 := fj_code_ok h
  simp only [fj_ok, Bool.and_eq_true] at h1
  exact h1.2
