section
-- ===== PART A: goes FIRST, ahead of the names: the tables' words, and 'selects' of the private methods out of them =====
/-- a private method of a class that the tables say can be made, by its rows of tables_1 -/
def lw_okq (q : MethodName × Nat) : Prop := (q.1.cls ≠ "java/lang/invoke/MethodHandle" ∧ q.1.cls ≠ "java/lang/invoke/VarHandle") ∧ Cond.instantiable q.1.cls q.2 ∈ tables_1 ∧ Cond.privateMethod q.1 ∈ tables_1 ∧ Cond.instanceMethod q.1 ∈ tables_1
theorem lw_p0 : lw_okq (⟨"TurnTasks", "startTask", "(II)I"⟩, 14) := ⟨⟨by decide +kernel, by decide +kernel⟩, List.mem_of_getElem? (i := 8) (by decide +kernel), List.mem_of_getElem? (i := 153) (by decide +kernel), List.mem_of_getElem? (i := 154) (by decide +kernel)⟩
theorem lw_p1 : lw_okq (⟨"TurnTasks", "leastNotLive", "()I"⟩, 14) := ⟨⟨by decide +kernel, by decide +kernel⟩, List.mem_of_getElem? (i := 8) (by decide +kernel), List.mem_of_getElem? (i := 157) (by decide +kernel), List.mem_of_getElem? (i := 158) (by decide +kernel)⟩
theorem lw_p2 : lw_okq (⟨"TurnTasks", "wakeWaiting", "()V"⟩, 14) := ⟨⟨by decide +kernel, by decide +kernel⟩, List.mem_of_getElem? (i := 8) (by decide +kernel), List.mem_of_getElem? (i := 187) (by decide +kernel), List.mem_of_getElem? (i := 188) (by decide +kernel)⟩
theorem lw_p3 : lw_okq (⟨"TurnTasks", "isThere", "(LTurnTasks$Task;)Z"⟩, 14) := ⟨⟨by decide +kernel, by decide +kernel⟩, List.mem_of_getElem? (i := 8) (by decide +kernel), List.mem_of_getElem? (i := 191) (by decide +kernel), List.mem_of_getElem? (i := 192) (by decide +kernel)⟩
theorem lw_p4 : lw_okq (⟨"TurnTasks", "hasRoom", "(I)Z"⟩, 14) := ⟨⟨by decide +kernel, by decide +kernel⟩, List.mem_of_getElem? (i := 8) (by decide +kernel), List.mem_of_getElem? (i := 195) (by decide +kernel), List.mem_of_getElem? (i := 196) (by decide +kernel)⟩
theorem lw_p5 : lw_okq (⟨"TurnTasks", "hasInts", "(I)Z"⟩, 14) := ⟨⟨by decide +kernel, by decide +kernel⟩, List.mem_of_getElem? (i := 8) (by decide +kernel), List.mem_of_getElem? (i := 199) (by decide +kernel), List.mem_of_getElem? (i := 200) (by decide +kernel)⟩
theorem lw_p6 : lw_okq (⟨"TurnTasks", "isLive", "(I)Z"⟩, 14) := ⟨⟨by decide +kernel, by decide +kernel⟩, List.mem_of_getElem? (i := 8) (by decide +kernel), List.mem_of_getElem? (i := 203) (by decide +kernel), List.mem_of_getElem? (i := 204) (by decide +kernel)⟩
theorem lw_p7 : lw_okq (⟨"TurnTasks", "advance", "()I"⟩, 14) := ⟨⟨by decide +kernel, by decide +kernel⟩, List.mem_of_getElem? (i := 8) (by decide +kernel), List.mem_of_getElem? (i := 227) (by decide +kernel), List.mem_of_getElem? (i := 228) (by decide +kernel)⟩
theorem lw_p8 : lw_okq (⟨"TurnTasks", "wakeSleepers", "()V"⟩, 14) := ⟨⟨by decide +kernel, by decide +kernel⟩, List.mem_of_getElem? (i := 8) (by decide +kernel), List.mem_of_getElem? (i := 231) (by decide +kernel), List.mem_of_getElem? (i := 232) (by decide +kernel)⟩
theorem lw_p9 : lw_okq (⟨"TurnTasks", "passTurn", "()Z"⟩, 14) := ⟨⟨by decide +kernel, by decide +kernel⟩, List.mem_of_getElem? (i := 8) (by decide +kernel), List.mem_of_getElem? (i := 235) (by decide +kernel), List.mem_of_getElem? (i := 236) (by decide +kernel)⟩
theorem lw_p10 : lw_okq (⟨"TurnTasks", "standstill", "()I"⟩, 14) := ⟨⟨by decide +kernel, by decide +kernel⟩, List.mem_of_getElem? (i := 8) (by decide +kernel), List.mem_of_getElem? (i := 239) (by decide +kernel), List.mem_of_getElem? (i := 240) (by decide +kernel)⟩
theorem lw_p11 : lw_okq (⟨"TurnTasks", "countLive", "()I"⟩, 14) := ⟨⟨by decide +kernel, by decide +kernel⟩, List.mem_of_getElem? (i := 8) (by decide +kernel), List.mem_of_getElem? (i := 243) (by decide +kernel), List.mem_of_getElem? (i := 244) (by decide +kernel)⟩
theorem lw_p12 : lw_okq (⟨"TurnTasks", "countIn", "(I)I"⟩, 14) := ⟨⟨by decide +kernel, by decide +kernel⟩, List.mem_of_getElem? (i := 8) (by decide +kernel), List.mem_of_getElem? (i := 247) (by decide +kernel), List.mem_of_getElem? (i := 248) (by decide +kernel)⟩
theorem lw_p13 : lw_okq (⟨"TurnTasks", "doOp", "()V"⟩, 14) := ⟨⟨by decide +kernel, by decide +kernel⟩, List.mem_of_getElem? (i := 8) (by decide +kernel), List.mem_of_getElem? (i := 251) (by decide +kernel), List.mem_of_getElem? (i := 252) (by decide +kernel)⟩
theorem lw_p14 : lw_okq (⟨"TurnTasks", "bringFault", "(II)V"⟩, 14) := ⟨⟨by decide +kernel, by decide +kernel⟩, List.mem_of_getElem? (i := 8) (by decide +kernel), List.mem_of_getElem? (i := 255) (by decide +kernel), List.mem_of_getElem? (i := 256) (by decide +kernel)⟩
theorem lw_p15 : lw_okq (⟨"TurnTasks", "strike", "(LTurnTasks$Task;I)Z"⟩, 14) := ⟨⟨by decide +kernel, by decide +kernel⟩, List.mem_of_getElem? (i := 8) (by decide +kernel), List.mem_of_getElem? (i := 259) (by decide +kernel), List.mem_of_getElem? (i := 260) (by decide +kernel)⟩
def lw_privs_1 : List (MethodName × Nat) := [(⟨"TurnTasks", "startTask", "(II)I"⟩, 14), (⟨"TurnTasks", "leastNotLive", "()I"⟩, 14), (⟨"TurnTasks", "wakeWaiting", "()V"⟩, 14), (⟨"TurnTasks", "isThere", "(LTurnTasks$Task;)Z"⟩, 14), (⟨"TurnTasks", "hasRoom", "(I)Z"⟩, 14), (⟨"TurnTasks", "hasInts", "(I)Z"⟩, 14), (⟨"TurnTasks", "isLive", "(I)Z"⟩, 14), (⟨"TurnTasks", "advance", "()I"⟩, 14), (⟨"TurnTasks", "wakeSleepers", "()V"⟩, 14), (⟨"TurnTasks", "passTurn", "()Z"⟩, 14), (⟨"TurnTasks", "standstill", "()I"⟩, 14), (⟨"TurnTasks", "countLive", "()I"⟩, 14), (⟨"TurnTasks", "countIn", "(I)I"⟩, 14), (⟨"TurnTasks", "doOp", "()V"⟩, 14), (⟨"TurnTasks", "bringFault", "(II)V"⟩, 14), (⟨"TurnTasks", "strike", "(LTurnTasks$Task;I)Z"⟩, 14)]
theorem lw_r1 : ∀ q ∈ lw_privs_1, lw_okq q := List.forall_mem_cons.mpr ⟨lw_p0, List.forall_mem_cons.mpr ⟨lw_p1, List.forall_mem_cons.mpr ⟨lw_p2, List.forall_mem_cons.mpr ⟨lw_p3, List.forall_mem_cons.mpr ⟨lw_p4, List.forall_mem_cons.mpr ⟨lw_p5, List.forall_mem_cons.mpr ⟨lw_p6, List.forall_mem_cons.mpr ⟨lw_p7, List.forall_mem_cons.mpr ⟨lw_p8, List.forall_mem_cons.mpr ⟨lw_p9, List.forall_mem_cons.mpr ⟨lw_p10, List.forall_mem_cons.mpr ⟨lw_p11, List.forall_mem_cons.mpr ⟨lw_p12, List.forall_mem_cons.mpr ⟨lw_p13, List.forall_mem_cons.mpr ⟨lw_p14, List.forall_mem_cons.mpr ⟨lw_p15, fun _ h => absurd h List.not_mem_nil⟩⟩⟩⟩⟩⟩⟩⟩⟩⟩⟩⟩⟩⟩⟩⟩
theorem lw_p16 : lw_okq (⟨"TurnTasks", "faultOf", "(LTurnTasks$Task;II)I"⟩, 14) := ⟨⟨by decide +kernel, by decide +kernel⟩, List.mem_of_getElem? (i := 8) (by decide +kernel), List.mem_of_getElem? (i := 268) (by decide +kernel), List.mem_of_getElem? (i := 269) (by decide +kernel)⟩
theorem lw_p17 : lw_okq (⟨"TurnTasks", "lacksTask", "(I)Z"⟩, 14) := ⟨⟨by decide +kernel, by decide +kernel⟩, List.mem_of_getElem? (i := 8) (by decide +kernel), List.mem_of_getElem? (i := 296) (by decide +kernel), List.mem_of_getElem? (i := 297) (by decide +kernel)⟩
theorem lw_p18 : lw_okq (⟨"TurnTasks", "overflows", "(LTurnTasks$Task;II)Z"⟩, 14) := ⟨⟨by decide +kernel, by decide +kernel⟩, List.mem_of_getElem? (i := 8) (by decide +kernel), List.mem_of_getElem? (i := 300) (by decide +kernel), List.mem_of_getElem? (i := 301) (by decide +kernel)⟩
theorem lw_p19 : lw_okq (⟨"TurnTasks", "comingBy", "(II)I"⟩, 14) := ⟨⟨by decide +kernel, by decide +kernel⟩, List.mem_of_getElem? (i := 8) (by decide +kernel), List.mem_of_getElem? (i := 304) (by decide +kernel), List.mem_of_getElem? (i := 305) (by decide +kernel)⟩
theorem lw_p20 : lw_okq (⟨"TurnTasks", "isFaulted", "(I)Z"⟩, 14) := ⟨⟨by decide +kernel, by decide +kernel⟩, List.mem_of_getElem? (i := 8) (by decide +kernel), List.mem_of_getElem? (i := 313) (by decide +kernel), List.mem_of_getElem? (i := 314) (by decide +kernel)⟩
theorem lw_p21 : lw_okq (⟨"TurnTasks", "mustWait", "(LTurnTasks$Task;II)Z"⟩, 14) := ⟨⟨by decide +kernel, by decide +kernel⟩, List.mem_of_getElem? (i := 8) (by decide +kernel), List.mem_of_getElem? (i := 317) (by decide +kernel), List.mem_of_getElem? (i := 318) (by decide +kernel)⟩
theorem lw_p22 : lw_okq (⟨"TurnTasks", "perform", "(LTurnTasks$Task;II)V"⟩, 14) := ⟨⟨by decide +kernel, by decide +kernel⟩, List.mem_of_getElem? (i := 8) (by decide +kernel), List.mem_of_getElem? (i := 325) (by decide +kernel), List.mem_of_getElem? (i := 326) (by decide +kernel)⟩
theorem lw_p23 : lw_okq (⟨"TurnTasks", "useMemory", "(LTurnTasks$Task;II)V"⟩, 14) := ⟨⟨by decide +kernel, by decide +kernel⟩, List.mem_of_getElem? (i := 8) (by decide +kernel), List.mem_of_getElem? (i := 357) (by decide +kernel), List.mem_of_getElem? (i := 358) (by decide +kernel)⟩
theorem lw_p24 : lw_okq (⟨"TurnTasks", "useChannel", "(LTurnTasks$Task;II)V"⟩, 14) := ⟨⟨by decide +kernel, by decide +kernel⟩, List.mem_of_getElem? (i := 8) (by decide +kernel), List.mem_of_getElem? (i := 364) (by decide +kernel), List.mem_of_getElem? (i := 365) (by decide +kernel)⟩
theorem lw_p25 : lw_okq (⟨"TurnTasks", "choose", "(LTurnTasks$Task;II)V"⟩, 14) := ⟨⟨by decide +kernel, by decide +kernel⟩, List.mem_of_getElem? (i := 8) (by decide +kernel), List.mem_of_getElem? (i := 368) (by decide +kernel), List.mem_of_getElem? (i := 369) (by decide +kernel)⟩
theorem lw_p26 : lw_okq (⟨"TurnTasks", "trySend", "(LTurnTasks$Task;I)V"⟩, 14) := ⟨⟨by decide +kernel, by decide +kernel⟩, List.mem_of_getElem? (i := 8) (by decide +kernel), List.mem_of_getElem? (i := 372) (by decide +kernel), List.mem_of_getElem? (i := 373) (by decide +kernel)⟩
theorem lw_p27 : lw_okq (⟨"TurnTasks", "tryReceive", "(LTurnTasks$Task;I)V"⟩, 14) := ⟨⟨by decide +kernel, by decide +kernel⟩, List.mem_of_getElem? (i := 8) (by decide +kernel), List.mem_of_getElem? (i := 376) (by decide +kernel), List.mem_of_getElem? (i := 377) (by decide +kernel)⟩
theorem lw_p28 : lw_okq (⟨"TurnTasks", "useItself", "(LTurnTasks$Task;II)V"⟩, 14) := ⟨⟨by decide +kernel, by decide +kernel⟩, List.mem_of_getElem? (i := 8) (by decide +kernel), List.mem_of_getElem? (i := 380) (by decide +kernel), List.mem_of_getElem? (i := 381) (by decide +kernel)⟩
theorem lw_p29 : lw_okq (⟨"TurnTasks", "sleep", "(LTurnTasks$Task;I)V"⟩, 14) := ⟨⟨by decide +kernel, by decide +kernel⟩, List.mem_of_getElem? (i := 8) (by decide +kernel), List.mem_of_getElem? (i := 384) (by decide +kernel), List.mem_of_getElem? (i := 385) (by decide +kernel)⟩
theorem lw_p30 : lw_okq (⟨"TurnTasks", "print", "(I)V"⟩, 14) := ⟨⟨by decide +kernel, by decide +kernel⟩, List.mem_of_getElem? (i := 8) (by decide +kernel), List.mem_of_getElem? (i := 392) (by decide +kernel), List.mem_of_getElem? (i := 393) (by decide +kernel)⟩
theorem lw_p31 : lw_okq (⟨"TurnTasks", "outcomeOf", "(I)I"⟩, 14) := ⟨⟨by decide +kernel, by decide +kernel⟩, List.mem_of_getElem? (i := 8) (by decide +kernel), List.mem_of_getElem? (i := 396) (by decide +kernel), List.mem_of_getElem? (i := 397) (by decide +kernel)⟩
def lw_privs_2 : List (MethodName × Nat) := [(⟨"TurnTasks", "faultOf", "(LTurnTasks$Task;II)I"⟩, 14), (⟨"TurnTasks", "lacksTask", "(I)Z"⟩, 14), (⟨"TurnTasks", "overflows", "(LTurnTasks$Task;II)Z"⟩, 14), (⟨"TurnTasks", "comingBy", "(II)I"⟩, 14), (⟨"TurnTasks", "isFaulted", "(I)Z"⟩, 14), (⟨"TurnTasks", "mustWait", "(LTurnTasks$Task;II)Z"⟩, 14), (⟨"TurnTasks", "perform", "(LTurnTasks$Task;II)V"⟩, 14), (⟨"TurnTasks", "useMemory", "(LTurnTasks$Task;II)V"⟩, 14), (⟨"TurnTasks", "useChannel", "(LTurnTasks$Task;II)V"⟩, 14), (⟨"TurnTasks", "choose", "(LTurnTasks$Task;II)V"⟩, 14), (⟨"TurnTasks", "trySend", "(LTurnTasks$Task;I)V"⟩, 14), (⟨"TurnTasks", "tryReceive", "(LTurnTasks$Task;I)V"⟩, 14), (⟨"TurnTasks", "useItself", "(LTurnTasks$Task;II)V"⟩, 14), (⟨"TurnTasks", "sleep", "(LTurnTasks$Task;I)V"⟩, 14), (⟨"TurnTasks", "print", "(I)V"⟩, 14), (⟨"TurnTasks", "outcomeOf", "(I)I"⟩, 14)]
theorem lw_r2 : ∀ q ∈ lw_privs_2, lw_okq q := List.forall_mem_cons.mpr ⟨lw_p16, List.forall_mem_cons.mpr ⟨lw_p17, List.forall_mem_cons.mpr ⟨lw_p18, List.forall_mem_cons.mpr ⟨lw_p19, List.forall_mem_cons.mpr ⟨lw_p20, List.forall_mem_cons.mpr ⟨lw_p21, List.forall_mem_cons.mpr ⟨lw_p22, List.forall_mem_cons.mpr ⟨lw_p23, List.forall_mem_cons.mpr ⟨lw_p24, List.forall_mem_cons.mpr ⟨lw_p25, List.forall_mem_cons.mpr ⟨lw_p26, List.forall_mem_cons.mpr ⟨lw_p27, List.forall_mem_cons.mpr ⟨lw_p28, List.forall_mem_cons.mpr ⟨lw_p29, List.forall_mem_cons.mpr ⟨lw_p30, List.forall_mem_cons.mpr ⟨lw_p31, fun _ h => absurd h List.not_mem_nil⟩⟩⟩⟩⟩⟩⟩⟩⟩⟩⟩⟩⟩⟩⟩⟩
theorem lw_p32 : lw_okq (⟨"TurnTasksModel", "unused", "()I"⟩, 28) := ⟨⟨by decide +kernel, by decide +kernel⟩, List.mem_of_getElem? (i := 441) (by decide +kernel), List.mem_of_getElem? (i := 551) (by decide +kernel), List.mem_of_getElem? (i := 552) (by decide +kernel)⟩
theorem lw_p33 : lw_okq (⟨"TurnTasksModel", "isLive", "(I)Z"⟩, 28) := ⟨⟨by decide +kernel, by decide +kernel⟩, List.mem_of_getElem? (i := 441) (by decide +kernel), List.mem_of_getElem? (i := 555) (by decide +kernel), List.mem_of_getElem? (i := 556) (by decide +kernel)⟩
theorem lw_p34 : lw_okq (⟨"TurnTasksModel", "begin", "(III)V"⟩, 28) := ⟨⟨by decide +kernel, by decide +kernel⟩, List.mem_of_getElem? (i := 441) (by decide +kernel), List.mem_of_getElem? (i := 559) (by decide +kernel), List.mem_of_getElem? (i := 560) (by decide +kernel)⟩
theorem lw_p35 : lw_okq (⟨"TurnTasksModel", "wake", "()V"⟩, 28) := ⟨⟨by decide +kernel, by decide +kernel⟩, List.mem_of_getElem? (i := 441) (by decide +kernel), List.mem_of_getElem? (i := 563) (by decide +kernel), List.mem_of_getElem? (i := 564) (by decide +kernel)⟩
theorem lw_p36 : lw_okq (⟨"TurnTasksModel", "comes", "(II)V"⟩, 28) := ⟨⟨by decide +kernel, by decide +kernel⟩, List.mem_of_getElem? (i := 441) (by decide +kernel), List.mem_of_getElem? (i := 582) (by decide +kernel), List.mem_of_getElem? (i := 583) (by decide +kernel)⟩
theorem lw_p37 : lw_okq (⟨"TurnTasksModel", "goes", "(I)I"⟩, 28) := ⟨⟨by decide +kernel, by decide +kernel⟩, List.mem_of_getElem? (i := 441) (by decide +kernel), List.mem_of_getElem? (i := 590) (by decide +kernel), List.mem_of_getElem? (i := 591) (by decide +kernel)⟩
theorem lw_p38 : lw_okq (⟨"TurnTasksModel", "ring", "()I"⟩, 28) := ⟨⟨by decide +kernel, by decide +kernel⟩, List.mem_of_getElem? (i := 441) (by decide +kernel), List.mem_of_getElem? (i := 598) (by decide +kernel), List.mem_of_getElem? (i := 599) (by decide +kernel)⟩
theorem lw_p39 : lw_okq (⟨"TurnTasksModel", "work", "(I)I"⟩, 28) := ⟨⟨by decide +kernel, by decide +kernel⟩, List.mem_of_getElem? (i := 441) (by decide +kernel), List.mem_of_getElem? (i := 602) (by decide +kernel), List.mem_of_getElem? (i := 603) (by decide +kernel)⟩
theorem lw_p40 : lw_okq (⟨"TurnTasksModel", "topOf", "(II)I"⟩, 28) := ⟨⟨by decide +kernel, by decide +kernel⟩, List.mem_of_getElem? (i := 441) (by decide +kernel), List.mem_of_getElem? (i := 609) (by decide +kernel), List.mem_of_getElem? (i := 610) (by decide +kernel)⟩
theorem lw_p41 : lw_okq (⟨"TurnTasksModel", "workChannel", "(IIII)I"⟩, 28) := ⟨⟨by decide +kernel, by decide +kernel⟩, List.mem_of_getElem? (i := 441) (by decide +kernel), List.mem_of_getElem? (i := 613) (by decide +kernel), List.mem_of_getElem? (i := 614) (by decide +kernel)⟩
theorem lw_p42 : lw_okq (⟨"TurnTasksModel", "waits", "(IIII)I"⟩, 28) := ⟨⟨by decide +kernel, by decide +kernel⟩, List.mem_of_getElem? (i := 441) (by decide +kernel), List.mem_of_getElem? (i := 617) (by decide +kernel), List.mem_of_getElem? (i := 618) (by decide +kernel)⟩
theorem lw_p43 : lw_okq (⟨"TurnTasksModel", "gives", "(III)V"⟩, 28) := ⟨⟨by decide +kernel, by decide +kernel⟩, List.mem_of_getElem? (i := 441) (by decide +kernel), List.mem_of_getElem? (i := 621) (by decide +kernel), List.mem_of_getElem? (i := 622) (by decide +kernel)⟩
theorem lw_p44 : lw_okq (⟨"TurnTasksModel", "workOther", "(IIIII)I"⟩, 28) := ⟨⟨by decide +kernel, by decide +kernel⟩, List.mem_of_getElem? (i := 441) (by decide +kernel), List.mem_of_getElem? (i := 628) (by decide +kernel), List.mem_of_getElem? (i := 629) (by decide +kernel)⟩
theorem lw_p45 : lw_okq (⟨"TurnTasksModel", "jump", "(IIII)V"⟩, 28) := ⟨⟨by decide +kernel, by decide +kernel⟩, List.mem_of_getElem? (i := 441) (by decide +kernel), List.mem_of_getElem? (i := 632) (by decide +kernel), List.mem_of_getElem? (i := 633) (by decide +kernel)⟩
theorem lw_p46 : lw_okq (⟨"TurnTasksModel", "inMemory", "(IIIII)V"⟩, 28) := ⟨⟨by decide +kernel, by decide +kernel⟩, List.mem_of_getElem? (i := 441) (by decide +kernel), List.mem_of_getElem? (i := 636) (by decide +kernel), List.mem_of_getElem? (i := 637) (by decide +kernel)⟩
theorem lw_p47 : lw_okq (⟨"TurnTasksModel", "act", "(IIII)V"⟩, 28) := ⟨⟨by decide +kernel, by decide +kernel⟩, List.mem_of_getElem? (i := 441) (by decide +kernel), List.mem_of_getElem? (i := 640) (by decide +kernel), List.mem_of_getElem? (i := 641) (by decide +kernel)⟩
def lw_privs_3 : List (MethodName × Nat) := [(⟨"TurnTasksModel", "unused", "()I"⟩, 28), (⟨"TurnTasksModel", "isLive", "(I)Z"⟩, 28), (⟨"TurnTasksModel", "begin", "(III)V"⟩, 28), (⟨"TurnTasksModel", "wake", "()V"⟩, 28), (⟨"TurnTasksModel", "comes", "(II)V"⟩, 28), (⟨"TurnTasksModel", "goes", "(I)I"⟩, 28), (⟨"TurnTasksModel", "ring", "()I"⟩, 28), (⟨"TurnTasksModel", "work", "(I)I"⟩, 28), (⟨"TurnTasksModel", "topOf", "(II)I"⟩, 28), (⟨"TurnTasksModel", "workChannel", "(IIII)I"⟩, 28), (⟨"TurnTasksModel", "waits", "(IIII)I"⟩, 28), (⟨"TurnTasksModel", "gives", "(III)V"⟩, 28), (⟨"TurnTasksModel", "workOther", "(IIIII)I"⟩, 28), (⟨"TurnTasksModel", "jump", "(IIII)V"⟩, 28), (⟨"TurnTasksModel", "inMemory", "(IIIII)V"⟩, 28), (⟨"TurnTasksModel", "act", "(IIII)V"⟩, 28)]
theorem lw_r3 : ∀ q ∈ lw_privs_3, lw_okq q := List.forall_mem_cons.mpr ⟨lw_p32, List.forall_mem_cons.mpr ⟨lw_p33, List.forall_mem_cons.mpr ⟨lw_p34, List.forall_mem_cons.mpr ⟨lw_p35, List.forall_mem_cons.mpr ⟨lw_p36, List.forall_mem_cons.mpr ⟨lw_p37, List.forall_mem_cons.mpr ⟨lw_p38, List.forall_mem_cons.mpr ⟨lw_p39, List.forall_mem_cons.mpr ⟨lw_p40, List.forall_mem_cons.mpr ⟨lw_p41, List.forall_mem_cons.mpr ⟨lw_p42, List.forall_mem_cons.mpr ⟨lw_p43, List.forall_mem_cons.mpr ⟨lw_p44, List.forall_mem_cons.mpr ⟨lw_p45, List.forall_mem_cons.mpr ⟨lw_p46, List.forall_mem_cons.mpr ⟨lw_p47, fun _ h => absurd h List.not_mem_nil⟩⟩⟩⟩⟩⟩⟩⟩⟩⟩⟩⟩⟩⟩⟩⟩
theorem lw_p48 : lw_okq (⟨"TurnTasksModel", "fault", "(IIZ)V"⟩, 28) := ⟨⟨by decide +kernel, by decide +kernel⟩, List.mem_of_getElem? (i := 441) (by decide +kernel), List.mem_of_getElem? (i := 645) (by decide +kernel), List.mem_of_getElem? (i := 646) (by decide +kernel)⟩
theorem lw_p49 : lw_okq (⟨"TurnTasksModel", "workPlain", "(IIIII)I"⟩, 28) := ⟨⟨by decide +kernel, by decide +kernel⟩, List.mem_of_getElem? (i := 441) (by decide +kernel), List.mem_of_getElem? (i := 649) (by decide +kernel), List.mem_of_getElem? (i := 650) (by decide +kernel)⟩
theorem lw_p50 : lw_okq (⟨"TurnTasksModel", "spread", "()V"⟩, 28) := ⟨⟨by decide +kernel, by decide +kernel⟩, List.mem_of_getElem? (i := 441) (by decide +kernel), List.mem_of_getElem? (i := 659) (by decide +kernel), List.mem_of_getElem? (i := 660) (by decide +kernel)⟩
def lw_privs_4 : List (MethodName × Nat) := [(⟨"TurnTasksModel", "fault", "(IIZ)V"⟩, 28), (⟨"TurnTasksModel", "workPlain", "(IIIII)I"⟩, 28), (⟨"TurnTasksModel", "spread", "()V"⟩, 28)]
theorem lw_r4 : ∀ q ∈ lw_privs_4, lw_okq q := List.forall_mem_cons.mpr ⟨lw_p48, List.forall_mem_cons.mpr ⟨lw_p49, List.forall_mem_cons.mpr ⟨lw_p50, fun _ h => absurd h List.not_mem_nil⟩⟩⟩
def lw_privs : List (MethodName × Nat) := lw_privs_1 ++ (lw_privs_2 ++ (lw_privs_3 ++ (lw_privs_4)))
def lw_tbl : List Cond := k2_sels lw_privs ++ tables_1
theorem lw_privs_ok : ∀ q ∈ lw_privs, lw_okq q := by
  show ∀ q ∈ lw_privs_1 ++ (lw_privs_2 ++ (lw_privs_3 ++ (lw_privs_4))), lw_okq q
  exact List.forall_mem_append.mpr ⟨lw_r1, List.forall_mem_append.mpr ⟨lw_r2, List.forall_mem_append.mpr ⟨lw_r3, lw_r4⟩⟩⟩
end
section
def RX0 : String := "TurnTasks$Channel"
def TX0 : u_T := fun k => match k with
  | 0 => ("TurnTasks$Channel", "ints", "[I", true)
  | 1 => ("TurnTasks$Channel", "count", "I", false)
  | _ => ("TurnTasks$Channel", "size", "I", false)
def tyX0 : Nat → FieldType := fun k => match k with
  | 0 => .array .int
  | 1 => .int
  | _ => .int
abbrev wsX00 : List Cond := u_ws RX0 TX0 3
theorem nmX0 : ∀ a, a < 3 → ∀ b, b < 3 → a ≠ b → (TX0 a).2.1 ≠ (TX0 b).2.1 := by decide +kernel
theorem tyX0_ok : ∀ k, k < 3 → parseFieldDescriptor (TX0 k).2.2.1 = some (tyX0 k) := by decide +kernel
abbrev cX0_init : ByteArray := prog_2_method_1_code
def yX0_init : MethodName := ⟨RX0, "<init>", "()V"⟩
abbrev cX0_append : ByteArray := prog_2_method_2_code
def yX0_append : MethodName := ⟨RX0, "append", "(I)V"⟩
abbrev cX0_removeFirst : ByteArray := prog_2_method_3_code
def yX0_removeFirst : MethodName := ⟨RX0, "removeFirst", "()I"⟩
def RX1 : String := "TurnTasks$Fault"
def TX1 : u_T := fun k => match k with
  | _ => ("", "", "", false)
def tyX1 : Nat → FieldType := fun k => match k with
  | _ => .int
abbrev wsX10 : List Cond := u_ws RX1 TX1 0
theorem nmX1 : ∀ a, a < 0 → ∀ b, b < 0 → a ≠ b → (TX1 a).2.1 ≠ (TX1 b).2.1 := by decide +kernel
theorem tyX1_ok : ∀ k, k < 0 → parseFieldDescriptor (TX1 k).2.2.1 = some (tyX1 k) := by decide +kernel
def RX2 : String := "TurnTasks$Op"
def TX2 : u_T := fun k => match k with
  | _ => ("", "", "", false)
def tyX2 : Nat → FieldType := fun k => match k with
  | _ => .int
abbrev wsX20 : List Cond := u_ws RX2 TX2 0
theorem nmX2 : ∀ a, a < 0 → ∀ b, b < 0 → a ≠ b → (TX2 a).2.1 ≠ (TX2 b).2.1 := by decide +kernel
theorem tyX2_ok : ∀ k, k < 0 → parseFieldDescriptor (TX2 k).2.2.1 = some (tyX2 k) := by decide +kernel
abbrev cX2_isOne : ByteArray := prog_4_method_2_code
def yX2_isOne : MethodName := ⟨RX2, "isOne", "(I)Z"⟩
abbrev cX2_isOfChannel : ByteArray := prog_4_method_3_code
def yX2_isOfChannel : MethodName := ⟨RX2, "isOfChannel", "(I)Z"⟩
abbrev cX2_takenBy : ByteArray := prog_4_method_4_code
def yX2_takenBy : MethodName := ⟨RX2, "takenBy", "(I)I"⟩
abbrev cX2_givenBy : ByteArray := prog_4_method_5_code
def yX2_givenBy : MethodName := ⟨RX2, "givenBy", "(I)I"⟩
def RX3 : String := "TurnTasks$State"
def TX3 : u_T := fun k => match k with
  | _ => ("", "", "", false)
def tyX3 : Nat → FieldType := fun k => match k with
  | _ => .int
abbrev wsX30 : List Cond := u_ws RX3 TX3 0
theorem nmX3 : ∀ a, a < 0 → ∀ b, b < 0 → a ≠ b → (TX3 a).2.1 ≠ (TX3 b).2.1 := by decide +kernel
theorem tyX3_ok : ∀ k, k < 0 → parseFieldDescriptor (TX3 k).2.2.1 = some (tyX3 k) := by decide +kernel
def RX4 : String := "TurnTasks$Task"
def TX4 : u_T := fun k => match k with
  | 0 => ("TurnTasks$Task", "stack", "[I", true)
  | 1 => ("TurnTasks$Task", "returns", "[I", true)
  | 2 => ("TurnTasks$Task", "state", "I", false)
  | 3 => ("TurnTasks$Task", "place", "I", false)
  | 4 => ("TurnTasks$Task", "depth", "I", false)
  | 5 => ("TurnTasks$Task", "returnCount", "I", false)
  | 6 => ("TurnTasks$Task", "trap", "I", false)
  | 7 => ("TurnTasks$Task", "links", "I", false)
  | 8 => ("TurnTasks$Task", "hour", "I", false)
  | 9 => ("TurnTasks$Task", "outcome", "I", false)
  | 10 => ("TurnTasks$Task", "awaited", "I", false)
  | _ => ("TurnTasks$Task", "alternative", "I", false)
def tyX4 : Nat → FieldType := fun k => match k with
  | 0 => .array .int
  | 1 => .array .int
  | 2 => .int
  | 3 => .int
  | 4 => .int
  | 5 => .int
  | 6 => .int
  | 7 => .int
  | 8 => .int
  | 9 => .int
  | 10 => .int
  | _ => .int
abbrev wsX40 : List Cond := u_ws RX4 TX4 12
theorem nmX4 : ∀ a, a < 12 → ∀ b, b < 12 → a ≠ b → (TX4 a).2.1 ≠ (TX4 b).2.1 := by decide +kernel
theorem tyX4_ok : ∀ k, k < 12 → parseFieldDescriptor (TX4 k).2.2.1 = some (tyX4 k) := by decide +kernel
abbrev cX4_init : ByteArray := prog_6_method_1_code
def yX4_init : MethodName := ⟨RX4, "<init>", "()V"⟩
abbrev cX4_isLive : ByteArray := prog_6_method_2_code
def yX4_isLive : MethodName := ⟨RX4, "isLive", "()Z"⟩
abbrev cX4_begin : ByteArray := prog_6_method_3_code
def yX4_begin : MethodName := ⟨RX4, "begin", "(II)V"⟩
abbrev cX4_restartAt : ByteArray := prog_6_method_4_code
def yX4_restartAt : MethodName := ⟨RX4, "restartAt", "(II)V"⟩
abbrev cX4_end : ByteArray := prog_6_method_5_code
def yX4_end : MethodName := ⟨RX4, "end", "(II)V"⟩
abbrev cX4_waitFor : ByteArray := prog_6_method_6_code
def yX4_waitFor : MethodName := ⟨RX4, "waitFor", "(III)V"⟩
abbrev cX4_push : ByteArray := prog_6_method_7_code
def yX4_push : MethodName := ⟨RX4, "push", "(I)V"⟩
abbrev cX4_pop : ByteArray := prog_6_method_8_code
def yX4_pop : MethodName := ⟨RX4, "pop", "()I"⟩
abbrev cX4_below : ByteArray := prog_6_method_9_code
def yX4_below : MethodName := ⟨RX4, "below", "(I)I"⟩
abbrev cX4_pushReturn : ByteArray := prog_6_method_10_code
def yX4_pushReturn : MethodName := ⟨RX4, "pushReturn", "(I)V"⟩
abbrev cX4_popReturn : ByteArray := prog_6_method_11_code
def yX4_popReturn : MethodName := ⟨RX4, "popReturn", "()I"⟩
def RX5 : String := "TurnTasks"
def TX5 : u_T := fun k => match k with
  | 0 => ("TurnTasks", "code", "[I", true)
  | 1 => ("TurnTasks", "memory", "[I", true)
  | 2 => ("TurnTasks", "record", "[I", true)
  | 3 => ("TurnTasks", "tasks", "[LTurnTasks$Task;", true)
  | 4 => ("TurnTasks", "channels", "[LTurnTasks$Channel;", true)
  | 5 => ("TurnTasks", "fallen", "[I", true)
  | 6 => ("TurnTasks", "quantum", "I", false)
  | 7 => ("TurnTasks", "latest", "I", false)
  | 8 => ("TurnTasks", "turn", "I", false)
  | 9 => ("TurnTasks", "left", "I", false)
  | 10 => ("TurnTasks", "time", "I", false)
  | 11 => ("TurnTasks", "printed", "I", false)
  | 12 => ("TurnTasks", "spawned", "I", false)
  | _ => ("TurnTasks", "faults", "I", false)
def tyX5 : Nat → FieldType := fun k => match k with
  | 0 => .array .int
  | 1 => .array .int
  | 2 => .array .int
  | 3 => .array (.object "TurnTasks$Task")
  | 4 => .array (.object "TurnTasks$Channel")
  | 5 => .array .int
  | 6 => .int
  | 7 => .int
  | 8 => .int
  | 9 => .int
  | 10 => .int
  | 11 => .int
  | 12 => .int
  | _ => .int
abbrev wsX50 : List Cond := u_ws RX5 TX5 14
theorem nmX5 : ∀ a, a < 14 → ∀ b, b < 14 → a ≠ b → (TX5 a).2.1 ≠ (TX5 b).2.1 := by decide +kernel
theorem tyX5_ok : ∀ k, k < 14 → parseFieldDescriptor (TX5 k).2.2.1 = some (tyX5 k) := by decide +kernel
abbrev cX5_init : ByteArray := prog_1_method_1_code
def yX5_init : MethodName := ⟨RX5, "<init>", "()V"⟩
abbrev cX5_poke : ByteArray := prog_1_method_2_code
def yX5_poke : MethodName := ⟨RX5, "poke", "(II)I"⟩
abbrev cX5_code : ByteArray := prog_1_method_3_code
def yX5_code : MethodName := ⟨RX5, "code", "(I)I"⟩
abbrev cX5_word : ByteArray := prog_1_method_4_code
def yX5_word : MethodName := ⟨RX5, "word", "(II)I"⟩
abbrev cX5_spawn : ByteArray := prog_1_method_5_code
def yX5_spawn : MethodName := ⟨RX5, "spawn", "(II)I"⟩
abbrev cX5_quantum : ByteArray := prog_1_method_6_code
def yX5_quantum : MethodName := ⟨RX5, "quantum", "(I)I"⟩
abbrev cX5_size : ByteArray := prog_1_method_7_code
def yX5_size : MethodName := ⟨RX5, "size", "(II)I"⟩
abbrev cX5_put : ByteArray := prog_1_method_8_code
def yX5_put : MethodName := ⟨RX5, "put", "(II)I"⟩
abbrev cX5_take : ByteArray := prog_1_method_9_code
def yX5_take : MethodName := ⟨RX5, "take", "(I)I"⟩
abbrev cX5_step : ByteArray := prog_1_method_10_code
def yX5_step : MethodName := ⟨RX5, "step", "()I"⟩
abbrev cX5_run : ByteArray := prog_1_method_11_code
def yX5_run : MethodName := ⟨RX5, "run", "(I)I"⟩
abbrev cX5_latest : ByteArray := prog_1_method_12_code
def yX5_latest : MethodName := ⟨RX5, "latest", "()I"⟩
abbrev cX5_state : ByteArray := prog_1_method_13_code
def yX5_state : MethodName := ⟨RX5, "state", "(I)I"⟩
abbrev cX5_about : ByteArray := prog_1_method_14_code
def yX5_about : MethodName := ⟨RX5, "about", "(II)I"⟩
abbrev cX5_stack : ByteArray := prog_1_method_15_code
def yX5_stack : MethodName := ⟨RX5, "stack", "(II)I"⟩
abbrev cX5_held : ByteArray := prog_1_method_16_code
def yX5_held : MethodName := ⟨RX5, "held", "(I)I"⟩
abbrev cX5_channel : ByteArray := prog_1_method_17_code
def yX5_channel : MethodName := ⟨RX5, "channel", "(II)I"⟩
abbrev cX5_memory : ByteArray := prog_1_method_18_code
def yX5_memory : MethodName := ⟨RX5, "memory", "(I)I"⟩
abbrev cX5_record : ByteArray := prog_1_method_19_code
def yX5_record : MethodName := ⟨RX5, "record", "(I)I"⟩
abbrev cX5_told : ByteArray := prog_1_method_20_code
def yX5_told : MethodName := ⟨RX5, "told", "(I)I"⟩
abbrev cX5_isCodePlace : ByteArray := prog_1_method_21_code
def yX5_isCodePlace : MethodName := ⟨RX5, "isCodePlace", "(I)Z"⟩
abbrev cX5_isMemoryPlace : ByteArray := prog_1_method_22_code
def yX5_isMemoryPlace : MethodName := ⟨RX5, "isMemoryPlace", "(I)Z"⟩
abbrev cX5_isTask : ByteArray := prog_1_method_23_code
def yX5_isTask : MethodName := ⟨RX5, "isTask", "(I)Z"⟩
abbrev cX5_isChannel : ByteArray := prog_1_method_24_code
def yX5_isChannel : MethodName := ⟨RX5, "isChannel", "(I)Z"⟩
abbrev cX5_isLive : ByteArray := prog_1_method_25_code
def yX5_isLive : MethodName := ⟨RX5, "isLive", "(I)Z"⟩
abbrev cX5_hasRoom : ByteArray := prog_1_method_26_code
def yX5_hasRoom : MethodName := ⟨RX5, "hasRoom", "(I)Z"⟩
abbrev cX5_hasInts : ByteArray := prog_1_method_27_code
def yX5_hasInts : MethodName := ⟨RX5, "hasInts", "(I)Z"⟩
abbrev cX5_countLive : ByteArray := prog_1_method_28_code
def yX5_countLive : MethodName := ⟨RX5, "countLive", "()I"⟩
abbrev cX5_countIn : ByteArray := prog_1_method_29_code
def yX5_countIn : MethodName := ⟨RX5, "countIn", "(I)I"⟩
abbrev cX5_startTask : ByteArray := prog_1_method_30_code
def yX5_startTask : MethodName := ⟨RX5, "startTask", "(II)I"⟩
abbrev cX5_leastNotLive : ByteArray := prog_1_method_31_code
def yX5_leastNotLive : MethodName := ⟨RX5, "leastNotLive", "()I"⟩
abbrev cX5_wakeSleepers : ByteArray := prog_1_method_32_code
def yX5_wakeSleepers : MethodName := ⟨RX5, "wakeSleepers", "()V"⟩
abbrev cX5_wakeWaiting : ByteArray := prog_1_method_33_code
def yX5_wakeWaiting : MethodName := ⟨RX5, "wakeWaiting", "()V"⟩
abbrev cX5_isThere : ByteArray := prog_1_method_34_code
def yX5_isThere : MethodName := ⟨RX5, "isThere", "(LTurnTasks$Task;)Z"⟩
abbrev cX5_advance : ByteArray := prog_1_method_35_code
def yX5_advance : MethodName := ⟨RX5, "advance", "()I"⟩
abbrev cX5_passTurn : ByteArray := prog_1_method_36_code
def yX5_passTurn : MethodName := ⟨RX5, "passTurn", "()Z"⟩
abbrev cX5_standstill : ByteArray := prog_1_method_37_code
def yX5_standstill : MethodName := ⟨RX5, "standstill", "()I"⟩
abbrev cX5_doOp : ByteArray := prog_1_method_38_code
def yX5_doOp : MethodName := ⟨RX5, "doOp", "()V"⟩
abbrev cX5_mustWait : ByteArray := prog_1_method_39_code
def yX5_mustWait : MethodName := ⟨RX5, "mustWait", "(LTurnTasks$Task;II)Z"⟩
abbrev cX5_faultOf : ByteArray := prog_1_method_40_code
def yX5_faultOf : MethodName := ⟨RX5, "faultOf", "(LTurnTasks$Task;II)I"⟩
abbrev cX5_lacksInts : ByteArray := prog_1_method_41_code
def yX5_lacksInts : MethodName := ⟨RX5, "lacksInts", "(LTurnTasks$Task;I)Z"⟩
abbrev cX5_lacksPlace : ByteArray := prog_1_method_42_code
def yX5_lacksPlace : MethodName := ⟨RX5, "lacksPlace", "(III)Z"⟩
abbrev cX5_lacksChannel : ByteArray := prog_1_method_43_code
def yX5_lacksChannel : MethodName := ⟨RX5, "lacksChannel", "(II)Z"⟩
abbrev cX5_lacksTask : ByteArray := prog_1_method_44_code
def yX5_lacksTask : MethodName := ⟨RX5, "lacksTask", "(I)Z"⟩
abbrev cX5_isFaulted : ByteArray := prog_1_method_45_code
def yX5_isFaulted : MethodName := ⟨RX5, "isFaulted", "(I)Z"⟩
abbrev cX5_overflows : ByteArray := prog_1_method_46_code
def yX5_overflows : MethodName := ⟨RX5, "overflows", "(LTurnTasks$Task;II)Z"⟩
abbrev cX5_comingBy : ByteArray := prog_1_method_47_code
def yX5_comingBy : MethodName := ⟨RX5, "comingBy", "(II)I"⟩
abbrev cX5_bringFault : ByteArray := prog_1_method_48_code
def yX5_bringFault : MethodName := ⟨RX5, "bringFault", "(II)V"⟩
abbrev cX5_strike : ByteArray := prog_1_method_49_code
def yX5_strike : MethodName := ⟨RX5, "strike", "(LTurnTasks$Task;I)Z"⟩
abbrev cX5_perform : ByteArray := prog_1_method_50_code
def yX5_perform : MethodName := ⟨RX5, "perform", "(LTurnTasks$Task;II)V"⟩
abbrev cX5_calculate : ByteArray := prog_1_method_51_code
def yX5_calculate : MethodName := ⟨RX5, "calculate", "(LTurnTasks$Task;II)V"⟩
abbrev cX5_swap : ByteArray := prog_1_method_52_code
def yX5_swap : MethodName := ⟨RX5, "swap", "(LTurnTasks$Task;)V"⟩
abbrev cX5_combine : ByteArray := prog_1_method_53_code
def yX5_combine : MethodName := ⟨RX5, "combine", "(III)I"⟩
abbrev cX5_go : ByteArray := prog_1_method_54_code
def yX5_go : MethodName := ⟨RX5, "go", "(LTurnTasks$Task;II)V"⟩
abbrev cX5_useMemory : ByteArray := prog_1_method_55_code
def yX5_useMemory : MethodName := ⟨RX5, "useMemory", "(LTurnTasks$Task;II)V"⟩
abbrev cX5_useChannel : ByteArray := prog_1_method_56_code
def yX5_useChannel : MethodName := ⟨RX5, "useChannel", "(LTurnTasks$Task;II)V"⟩
abbrev cX5_trySend : ByteArray := prog_1_method_57_code
def yX5_trySend : MethodName := ⟨RX5, "trySend", "(LTurnTasks$Task;I)V"⟩
abbrev cX5_tryReceive : ByteArray := prog_1_method_58_code
def yX5_tryReceive : MethodName := ⟨RX5, "tryReceive", "(LTurnTasks$Task;I)V"⟩
abbrev cX5_choose : ByteArray := prog_1_method_59_code
def yX5_choose : MethodName := ⟨RX5, "choose", "(LTurnTasks$Task;II)V"⟩
abbrev cX5_useItself : ByteArray := prog_1_method_60_code
def yX5_useItself : MethodName := ⟨RX5, "useItself", "(LTurnTasks$Task;II)V"⟩
abbrev cX5_outcomeOf : ByteArray := prog_1_method_61_code
def yX5_outcomeOf : MethodName := ⟨RX5, "outcomeOf", "(I)I"⟩
abbrev cX5_sleep : ByteArray := prog_1_method_62_code
def yX5_sleep : MethodName := ⟨RX5, "sleep", "(LTurnTasks$Task;I)V"⟩
abbrev cX5_print : ByteArray := prog_1_method_63_code
def yX5_print : MethodName := ⟨RX5, "print", "(I)V"⟩
def RX6 : String := "TurnTasksModel"
def TX6 : u_T := fun k => match k with
  | 0 => ("TurnTasksModel", "code", "[I", true)
  | 1 => ("TurnTasksModel", "memory", "[I", true)
  | 2 => ("TurnTasksModel", "state", "[I", true)
  | 3 => ("TurnTasksModel", "place", "[I", true)
  | 4 => ("TurnTasksModel", "high", "[I", true)
  | 5 => ("TurnTasksModel", "stack", "[I", true)
  | 6 => ("TurnTasksModel", "returns", "[I", true)
  | 7 => ("TurnTasksModel", "back", "[I", true)
  | 8 => ("TurnTasksModel", "trap", "[I", true)
  | 9 => ("TurnTasksModel", "links", "[I", true)
  | 10 => ("TurnTasksModel", "hour", "[I", true)
  | 11 => ("TurnTasksModel", "ended", "[I", true)
  | 12 => ("TurnTasksModel", "first", "[I", true)
  | 13 => ("TurnTasksModel", "second", "[I", true)
  | 14 => ("TurnTasksModel", "room", "[I", true)
  | 15 => ("TurnTasksModel", "held", "[I", true)
  | 16 => ("TurnTasksModel", "channel", "[I", true)
  | 17 => ("TurnTasksModel", "record", "[I", true)
  | 18 => ("TurnTasksModel", "printed", "I", false)
  | 19 => ("TurnTasksModel", "time", "I", false)
  | 20 => ("TurnTasksModel", "turn", "I", false)
  | 21 => ("TurnTasksModel", "left", "I", false)
  | 22 => ("TurnTasksModel", "quantum", "I", false)
  | 23 => ("TurnTasksModel", "latest", "I", false)
  | 24 => ("TurnTasksModel", "spawned", "I", false)
  | 25 => ("TurnTasksModel", "faults", "I", false)
  | 26 => ("TurnTasksModel", "fallen", "[I", true)
  | _ => ("TurnTasksModel", "fallenMany", "I", false)
def tyX6 : Nat → FieldType := fun k => match k with
  | 0 => .array .int
  | 1 => .array .int
  | 2 => .array .int
  | 3 => .array .int
  | 4 => .array .int
  | 5 => .array .int
  | 6 => .array .int
  | 7 => .array .int
  | 8 => .array .int
  | 9 => .array .int
  | 10 => .array .int
  | 11 => .array .int
  | 12 => .array .int
  | 13 => .array .int
  | 14 => .array .int
  | 15 => .array .int
  | 16 => .array .int
  | 17 => .array .int
  | 18 => .int
  | 19 => .int
  | 20 => .int
  | 21 => .int
  | 22 => .int
  | 23 => .int
  | 24 => .int
  | 25 => .int
  | 26 => .array .int
  | _ => .int
abbrev wsX60 : List Cond := u_ws RX6 TX6 28
theorem nmX6 : ∀ a, a < 28 → ∀ b, b < 28 → a ≠ b → (TX6 a).2.1 ≠ (TX6 b).2.1 := by decide +kernel
theorem tyX6_ok : ∀ k, k < 28 → parseFieldDescriptor (TX6 k).2.2.1 = some (tyX6 k) := by decide +kernel
abbrev cX6_init : ByteArray := prog_8_method_1_code
def yX6_init : MethodName := ⟨RX6, "<init>", "()V"⟩
abbrev cX6_in : ByteArray := prog_8_method_2_code
def yX6_in : MethodName := ⟨RX6, "in", "(III)Z"⟩
abbrev cX6_poke : ByteArray := prog_8_method_3_code
def yX6_poke : MethodName := ⟨RX6, "poke", "(II)I"⟩
abbrev cX6_code : ByteArray := prog_8_method_4_code
def yX6_code : MethodName := ⟨RX6, "code", "(I)I"⟩
abbrev cX6_word : ByteArray := prog_8_method_5_code
def yX6_word : MethodName := ⟨RX6, "word", "(II)I"⟩
abbrev cX6_isLive : ByteArray := prog_8_method_6_code
def yX6_isLive : MethodName := ⟨RX6, "isLive", "(I)Z"⟩
abbrev cX6_unused : ByteArray := prog_8_method_7_code
def yX6_unused : MethodName := ⟨RX6, "unused", "()I"⟩
abbrev cX6_begin : ByteArray := prog_8_method_8_code
def yX6_begin : MethodName := ⟨RX6, "begin", "(III)V"⟩
abbrev cX6_spawn : ByteArray := prog_8_method_9_code
def yX6_spawn : MethodName := ⟨RX6, "spawn", "(II)I"⟩
abbrev cX6_quantum : ByteArray := prog_8_method_10_code
def yX6_quantum : MethodName := ⟨RX6, "quantum", "(I)I"⟩
abbrev cX6_isChannel : ByteArray := prog_8_method_11_code
def yX6_isChannel : MethodName := ⟨RX6, "isChannel", "(I)Z"⟩
abbrev cX6_size : ByteArray := prog_8_method_12_code
def yX6_size : MethodName := ⟨RX6, "size", "(II)I"⟩
abbrev cX6_comes : ByteArray := prog_8_method_13_code
def yX6_comes : MethodName := ⟨RX6, "comes", "(II)V"⟩
abbrev cX6_goes : ByteArray := prog_8_method_14_code
def yX6_goes : MethodName := ⟨RX6, "goes", "(I)I"⟩
abbrev cX6_put : ByteArray := prog_8_method_15_code
def yX6_put : MethodName := ⟨RX6, "put", "(II)I"⟩
abbrev cX6_take : ByteArray := prog_8_method_16_code
def yX6_take : MethodName := ⟨RX6, "take", "(I)I"⟩
abbrev cX6_wake : ByteArray := prog_8_method_17_code
def yX6_wake : MethodName := ⟨RX6, "wake", "()V"⟩
abbrev cX6_fault : ByteArray := prog_8_method_18_code
def yX6_fault : MethodName := ⟨RX6, "fault", "(IIZ)V"⟩
abbrev cX6_spread : ByteArray := prog_8_method_19_code
def yX6_spread : MethodName := ⟨RX6, "spread", "()V"⟩
abbrev cX6_ring : ByteArray := prog_8_method_20_code
def yX6_ring : MethodName := ⟨RX6, "ring", "()I"⟩
abbrev cX6_step : ByteArray := prog_8_method_21_code
def yX6_step : MethodName := ⟨RX6, "step", "()I"⟩
abbrev cX6_run : ByteArray := prog_8_method_22_code
def yX6_run : MethodName := ⟨RX6, "run", "(I)I"⟩
abbrev cX6_takes : ByteArray := prog_8_method_23_code
def yX6_takes : MethodName := ⟨RX6, "takes", "(I)I"⟩
abbrev cX6_topOf : ByteArray := prog_8_method_24_code
def yX6_topOf : MethodName := ⟨RX6, "topOf", "(II)I"⟩
abbrev cX6_gives : ByteArray := prog_8_method_25_code
def yX6_gives : MethodName := ⟨RX6, "gives", "(III)V"⟩
abbrev cX6_work : ByteArray := prog_8_method_26_code
def yX6_work : MethodName := ⟨RX6, "work", "(I)I"⟩
abbrev cX6_more : ByteArray := prog_8_method_27_code
def yX6_more : MethodName := ⟨RX6, "more", "(I)I"⟩
abbrev cX6_workPlain : ByteArray := prog_8_method_28_code
def yX6_workPlain : MethodName := ⟨RX6, "workPlain", "(IIIII)I"⟩
abbrev cX6_reckoned : ByteArray := prog_8_method_29_code
def yX6_reckoned : MethodName := ⟨RX6, "reckoned", "(III)I"⟩
abbrev cX6_waits : ByteArray := prog_8_method_30_code
def yX6_waits : MethodName := ⟨RX6, "waits", "(IIII)I"⟩
abbrev cX6_workChannel : ByteArray := prog_8_method_31_code
def yX6_workChannel : MethodName := ⟨RX6, "workChannel", "(IIII)I"⟩
abbrev cX6_whichOf : ByteArray := prog_8_method_32_code
def yX6_whichOf : MethodName := ⟨RX6, "whichOf", "(II)I"⟩
abbrev cX6_workOther : ByteArray := prog_8_method_33_code
def yX6_workOther : MethodName := ⟨RX6, "workOther", "(IIIII)I"⟩
abbrev cX6_jump : ByteArray := prog_8_method_34_code
def yX6_jump : MethodName := ⟨RX6, "jump", "(IIII)V"⟩
abbrev cX6_inMemory : ByteArray := prog_8_method_35_code
def yX6_inMemory : MethodName := ⟨RX6, "inMemory", "(IIIII)V"⟩
abbrev cX6_act : ByteArray := prog_8_method_36_code
def yX6_act : MethodName := ⟨RX6, "act", "(IIII)V"⟩
abbrev cX6_latest : ByteArray := prog_8_method_37_code
def yX6_latest : MethodName := ⟨RX6, "latest", "()I"⟩
abbrev cX6_isTask : ByteArray := prog_8_method_38_code
def yX6_isTask : MethodName := ⟨RX6, "isTask", "(I)Z"⟩
abbrev cX6_state : ByteArray := prog_8_method_39_code
def yX6_state : MethodName := ⟨RX6, "state", "(I)I"⟩
abbrev cX6_about : ByteArray := prog_8_method_40_code
def yX6_about : MethodName := ⟨RX6, "about", "(II)I"⟩
abbrev cX6_stack : ByteArray := prog_8_method_41_code
def yX6_stack : MethodName := ⟨RX6, "stack", "(II)I"⟩
abbrev cX6_held : ByteArray := prog_8_method_42_code
def yX6_held : MethodName := ⟨RX6, "held", "(I)I"⟩
abbrev cX6_channel : ByteArray := prog_8_method_43_code
def yX6_channel : MethodName := ⟨RX6, "channel", "(II)I"⟩
abbrev cX6_memory : ByteArray := prog_8_method_44_code
def yX6_memory : MethodName := ⟨RX6, "memory", "(I)I"⟩
abbrev cX6_record : ByteArray := prog_8_method_45_code
def yX6_record : MethodName := ⟨RX6, "record", "(I)I"⟩
abbrev cX6_told : ByteArray := prog_8_method_46_code
def yX6_told : MethodName := ⟨RX6, "told", "(I)I"⟩
def RJ9 : String := "java/lang/Math"
def TJ9 : u_T := fun k => match k with
  | _ => ("", "", "", false)
def tyJ9 : Nat → FieldType := fun k => match k with
  | _ => .int
abbrev wsJ90 : List Cond := u_ws RJ9 TJ9 0
theorem nmJ9 : ∀ a, a < 0 → ∀ b, b < 0 → a ≠ b → (TJ9 a).2.1 ≠ (TJ9 b).2.1 := by decide +kernel
theorem tyJ9_ok : ∀ k, k < 0 → parseFieldDescriptor (TJ9 k).2.2.1 = some (tyJ9 k) := by decide +kernel
abbrev cJ9_min_7cf53 : ByteArray := prog_9_method_69_code
def yJ9_min_7cf53 : MethodName := ⟨RJ9, "min", "(II)I"⟩
def RL : String := "TurnTasksLaw"
abbrev cL_law : ByteArray := code
def yL_law : MethodName := ⟨RL, "law", "([I)Z"⟩
abbrev vwCl : List vw_C := [(RX0, TX0, 3), (RX4, TX4, 12), (RX5, TX5, 14), (RX6, TX6, 28)]
end
section
abbrev fj_V : Type := Int32 ⊕ (Nat × Nat)
abbrev fj_N : Type := Nat → Nat → Nat → Int32
abbrev fj_M : Type := fj_N × fj_N
abbrev fj_L : Type := List (Option fj_V)
abbrev fj_C : Type := Nat × Nat × fj_L × List fj_V × fj_M
abbrev fj_R : Type := Option Int32 × fj_M
abbrev fj_I : Type := Instr × Nat × Nat × List (Int32 × Nat)
abbrev fj_X : Type := Nat × (Nat → Int32)
def fj_lk {α : Type} : Nat → List (Nat × α) → Option α
  | _, [] => none
  | p, q :: r => match Nat.beq p q.1 with
    | true => some q.2
    | false => fj_lk p r
/-- X0_append -/
def fj_c0 : List (Nat × fj_I) := [(0, (.aload_n 0, 1, 0, [])),
  (1, (.getfield 19, 4, 1001, [])),
  (4, (.bipush 8, 6, 0, [])),
  (6, (.if_icmp .ge 20, 9, 26, [])),
  (9, (.aload_n 0, 10, 0, [])),
  (10, (.getfield 9, 13, 1000, [])),
  (13, (.aload_n 0, 14, 0, [])),
  (14, (.dup, 15, 0, [])),
  (15, (.getfield 19, 18, 1001, [])),
  (18, (.dup_x1, 19, 0, [])),
  (19, (.iconst 1, 20, 0, [])),
  (20, (.iadd, 21, 0, [])),
  (21, (.putfield 19, 24, 1001, [])),
  (24, (.iload_n 1, 25, 0, [])),
  (25, (.iastore, 26, 0, [])),
  (26, (.return_, 27, 0, []))]
/-- X0_removeFirst -/
def fj_c1 : List (Nat × fj_I) := [(0, (.aload_n 0, 1, 0, [])),
  (1, (.getfield 19, 4, 1001, [])),
  (4, (.ifCond .ne 5, 7, 9, [])),
  (7, (.iconst 0, 8, 0, [])),
  (8, (.ireturn, 9, 0, [])),
  (9, (.aload_n 0, 10, 0, [])),
  (10, (.getfield 9, 13, 1000, [])),
  (13, (.iconst 0, 14, 0, [])),
  (14, (.iaload, 15, 0, [])),
  (15, (.istore_n 1, 16, 0, [])),
  (16, (.iconst 1, 17, 0, [])),
  (17, (.istore_n 2, 18, 0, [])),
  (18, (.iload_n 2, 19, 0, [])),
  (19, (.aload_n 0, 20, 0, [])),
  (20, (.getfield 19, 23, 1001, [])),
  (23, (.if_icmp .ge 29, 26, 52, [])),
  (26, (.iload_n 2, 27, 0, [])),
  (27, (.bipush 8, 29, 0, [])),
  (29, (.if_icmp .ge 23, 32, 52, [])),
  (32, (.aload_n 0, 33, 0, [])),
  (33, (.getfield 9, 36, 1000, [])),
  (36, (.iload_n 2, 37, 0, [])),
  (37, (.iconst 1, 38, 0, [])),
  (38, (.isub, 39, 0, [])),
  (39, (.aload_n 0, 40, 0, [])),
  (40, (.getfield 9, 43, 1000, [])),
  (43, (.iload_n 2, 44, 0, [])),
  (44, (.iaload, 45, 0, [])),
  (45, (.iastore, 46, 0, [])),
  (46, (.iinc 2 1, 49, 0, [])),
  (49, (.goto (-31), 52, 18, [])),
  (52, (.aload_n 0, 53, 0, [])),
  (53, (.dup, 54, 0, [])),
  (54, (.getfield 19, 57, 1001, [])),
  (57, (.iconst 1, 58, 0, [])),
  (58, (.isub, 59, 0, [])),
  (59, (.putfield 19, 62, 1001, [])),
  (62, (.iload_n 1, 63, 0, [])),
  (63, (.ireturn, 64, 0, []))]
/-- X2_isOne -/
def fj_c2 : List (Nat × fj_I) := [(0, (.iload_n 0, 1, 0, [])),
  (1, (.ifCond .lt 13, 4, 14, [])),
  (4, (.iload_n 0, 5, 0, [])),
  (5, (.bipush 45, 7, 0, [])),
  (7, (.if_icmp .gt 7, 10, 14, [])),
  (10, (.iconst 1, 11, 0, [])),
  (11, (.goto 4, 14, 15, [])),
  (14, (.iconst 0, 15, 0, [])),
  (15, (.ireturn, 16, 0, []))]
/-- X2_isOfChannel -/
def fj_c3 : List (Nat × fj_I) := [(0, (.iload_n 0, 1, 0, [])),
  (1, (.bipush 31, 3, 0, [])),
  (3, (.if_icmp .lt 9, 6, 12, [])),
  (6, (.iload_n 0, 7, 0, [])),
  (7, (.bipush 35, 9, 0, [])),
  (9, (.if_icmp .le 9, 12, 18, [])),
  (12, (.iload_n 0, 13, 0, [])),
  (13, (.bipush 44, 15, 0, [])),
  (15, (.if_icmp .ne 7, 18, 22, [])),
  (18, (.iconst 1, 19, 0, [])),
  (19, (.goto 4, 22, 23, [])),
  (22, (.iconst 0, 23, 0, [])),
  (23, (.ireturn, 24, 0, []))]
/-- X2_takenBy -/
def fj_c4 : List (Nat × fj_I) := [(0, (.iload_n 0, 1, 0, [])),
  (1, (.ifCond .lt 19, 4, 20, [])),
  (4, (.iload_n 0, 5, 0, [])),
  (5, (.getstatic 9, 8, 40, [])),
  (8, (.arraylength, 9, 0, [])),
  (9, (.if_icmp .ge 11, 12, 20, [])),
  (12, (.getstatic 9, 15, 40, [])),
  (15, (.iload_n 0, 16, 0, [])),
  (16, (.iaload, 17, 0, [])),
  (17, (.goto 4, 20, 21, [])),
  (20, (.iconst 0, 21, 0, [])),
  (21, (.ireturn, 22, 0, []))]
/-- X2_givenBy -/
def fj_c5 : List (Nat × fj_I) := [(0, (.iload_n 0, 1, 0, [])),
  (1, (.ifCond .lt 19, 4, 20, [])),
  (4, (.iload_n 0, 5, 0, [])),
  (5, (.getstatic 13, 8, 41, [])),
  (8, (.arraylength, 9, 0, [])),
  (9, (.if_icmp .ge 11, 12, 20, [])),
  (12, (.getstatic 13, 15, 41, [])),
  (15, (.iload_n 0, 16, 0, [])),
  (16, (.iaload, 17, 0, [])),
  (17, (.goto 4, 20, 21, [])),
  (20, (.iconst 0, 21, 0, [])),
  (21, (.ireturn, 22, 0, []))]
/-- X4_isLive -/
def fj_c6 : List (Nat × fj_I) := [(0, (.aload_n 0, 1, 0, [])),
  (1, (.getfield 20, 4, 702, [])),
  (4, (.iconst 1, 5, 0, [])),
  (5, (.if_icmp .lt 16, 8, 21, [])),
  (8, (.aload_n 0, 9, 0, [])),
  (9, (.getfield 20, 12, 702, [])),
  (12, (.bipush 6, 14, 0, [])),
  (14, (.if_icmp .gt 7, 17, 21, [])),
  (17, (.iconst 1, 18, 0, [])),
  (18, (.goto 4, 21, 22, [])),
  (21, (.iconst 0, 22, 0, [])),
  (22, (.ireturn, 23, 0, []))]
/-- X4_begin -/
def fj_c7 : List (Nat × fj_I) := [(0, (.aload_n 0, 1, 0, [])),
  (1, (.iload_n 1, 2, 0, [])),
  (2, (.iload_n 2, 3, 0, [])),
  (3, (.invokevirtual 27, 6, 8, [])),
  (6, (.aload_n 0, 7, 0, [])),
  (7, (.iconst 0, 8, 0, [])),
  (8, (.putfield 31, 11, 707, [])),
  (11, (.aload_n 0, 12, 0, [])),
  (12, (.iconst 0, 13, 0, [])),
  (13, (.putfield 34, 16, 709, [])),
  (16, (.return_, 17, 0, []))]
/-- X4_restartAt -/
def fj_c8 : List (Nat × fj_I) := [(0, (.aload_n 0, 1, 0, [])),
  (1, (.iconst 1, 2, 0, [])),
  (2, (.putfield 20, 5, 702, [])),
  (5, (.aload_n 0, 6, 0, [])),
  (6, (.iload_n 1, 7, 0, [])),
  (7, (.putfield 37, 10, 703, [])),
  (10, (.aload_n 0, 11, 0, [])),
  (11, (.getfield 9, 14, 700, [])),
  (14, (.iconst 0, 15, 0, [])),
  (15, (.iload_n 2, 16, 0, [])),
  (16, (.iastore, 17, 0, [])),
  (17, (.aload_n 0, 18, 0, [])),
  (18, (.iconst 1, 19, 0, [])),
  (19, (.putfield 40, 22, 704, [])),
  (22, (.aload_n 0, 23, 0, [])),
  (23, (.iconst 0, 24, 0, [])),
  (24, (.putfield 43, 27, 705, [])),
  (27, (.aload_n 0, 28, 0, [])),
  (28, (.iconst (-1), 29, 0, [])),
  (29, (.putfield 24, 32, 706, [])),
  (32, (.return_, 33, 0, []))]
/-- X4_end -/
def fj_c9 : List (Nat × fj_I) := [(0, (.aload_n 0, 1, 0, [])),
  (1, (.iload_n 1, 2, 0, [])),
  (2, (.putfield 20, 5, 702, [])),
  (5, (.aload_n 0, 6, 0, [])),
  (6, (.iload_n 2, 7, 0, [])),
  (7, (.putfield 34, 10, 709, [])),
  (10, (.return_, 11, 0, []))]
/-- X4_waitFor -/
def fj_c10 : List (Nat × fj_I) := [(0, (.aload_n 0, 1, 0, [])),
  (1, (.iload_n 1, 2, 0, [])),
  (2, (.putfield 20, 5, 702, [])),
  (5, (.aload_n 0, 6, 0, [])),
  (6, (.iload_n 2, 7, 0, [])),
  (7, (.putfield 46, 10, 710, [])),
  (10, (.aload_n 0, 11, 0, [])),
  (11, (.iload_n 3, 12, 0, [])),
  (12, (.putfield 49, 15, 711, [])),
  (15, (.return_, 16, 0, []))]
/-- X4_push -/
def fj_c11 : List (Nat × fj_I) := [(0, (.aload_n 0, 1, 0, [])),
  (1, (.getfield 40, 4, 704, [])),
  (4, (.bipush 24, 6, 0, [])),
  (6, (.if_icmp .ge 20, 9, 26, [])),
  (9, (.aload_n 0, 10, 0, [])),
  (10, (.getfield 9, 13, 700, [])),
  (13, (.aload_n 0, 14, 0, [])),
  (14, (.dup, 15, 0, [])),
  (15, (.getfield 40, 18, 704, [])),
  (18, (.dup_x1, 19, 0, [])),
  (19, (.iconst 1, 20, 0, [])),
  (20, (.iadd, 21, 0, [])),
  (21, (.putfield 40, 24, 704, [])),
  (24, (.iload_n 1, 25, 0, [])),
  (25, (.iastore, 26, 0, [])),
  (26, (.return_, 27, 0, []))]
/-- X4_pop -/
def fj_c12 : List (Nat × fj_I) := [(0, (.aload_n 0, 1, 0, [])),
  (1, (.getfield 40, 4, 704, [])),
  (4, (.ifCond .le 22, 7, 26, [])),
  (7, (.aload_n 0, 8, 0, [])),
  (8, (.getfield 9, 11, 700, [])),
  (11, (.aload_n 0, 12, 0, [])),
  (12, (.dup, 13, 0, [])),
  (13, (.getfield 40, 16, 704, [])),
  (16, (.iconst 1, 17, 0, [])),
  (17, (.isub, 18, 0, [])),
  (18, (.dup_x1, 19, 0, [])),
  (19, (.putfield 40, 22, 704, [])),
  (22, (.iaload, 23, 0, [])),
  (23, (.goto 4, 26, 27, [])),
  (26, (.iconst 0, 27, 0, [])),
  (27, (.ireturn, 28, 0, []))]
/-- X4_below -/
def fj_c13 : List (Nat × fj_I) := [(0, (.iload_n 1, 1, 0, [])),
  (1, (.ifCond .lt 27, 4, 28, [])),
  (4, (.iload_n 1, 5, 0, [])),
  (5, (.aload_n 0, 6, 0, [])),
  (6, (.getfield 40, 9, 704, [])),
  (9, (.if_icmp .ge 19, 12, 28, [])),
  (12, (.aload_n 0, 13, 0, [])),
  (13, (.getfield 9, 16, 700, [])),
  (16, (.aload_n 0, 17, 0, [])),
  (17, (.getfield 40, 20, 704, [])),
  (20, (.iconst 1, 21, 0, [])),
  (21, (.isub, 22, 0, [])),
  (22, (.iload_n 1, 23, 0, [])),
  (23, (.isub, 24, 0, [])),
  (24, (.iaload, 25, 0, [])),
  (25, (.goto 4, 28, 29, [])),
  (28, (.iconst 0, 29, 0, [])),
  (29, (.ireturn, 30, 0, []))]
/-- X4_pushReturn -/
def fj_c14 : List (Nat × fj_I) := [(0, (.aload_n 0, 1, 0, [])),
  (1, (.getfield 43, 4, 705, [])),
  (4, (.bipush 12, 6, 0, [])),
  (6, (.if_icmp .ge 20, 9, 26, [])),
  (9, (.aload_n 0, 10, 0, [])),
  (10, (.getfield 15, 13, 701, [])),
  (13, (.aload_n 0, 14, 0, [])),
  (14, (.dup, 15, 0, [])),
  (15, (.getfield 43, 18, 705, [])),
  (18, (.dup_x1, 19, 0, [])),
  (19, (.iconst 1, 20, 0, [])),
  (20, (.iadd, 21, 0, [])),
  (21, (.putfield 43, 24, 705, [])),
  (24, (.iload_n 1, 25, 0, [])),
  (25, (.iastore, 26, 0, [])),
  (26, (.return_, 27, 0, []))]
/-- X4_popReturn -/
def fj_c15 : List (Nat × fj_I) := [(0, (.aload_n 0, 1, 0, [])),
  (1, (.getfield 43, 4, 705, [])),
  (4, (.ifCond .le 22, 7, 26, [])),
  (7, (.aload_n 0, 8, 0, [])),
  (8, (.getfield 15, 11, 701, [])),
  (11, (.aload_n 0, 12, 0, [])),
  (12, (.dup, 13, 0, [])),
  (13, (.getfield 43, 16, 705, [])),
  (16, (.iconst 1, 17, 0, [])),
  (17, (.isub, 18, 0, [])),
  (18, (.dup_x1, 19, 0, [])),
  (19, (.putfield 43, 22, 705, [])),
  (22, (.iaload, 23, 0, [])),
  (23, (.goto 7, 26, 30, [])),
  (26, (.aload_n 0, 27, 0, [])),
  (27, (.getfield 37, 30, 703, [])),
  (30, (.ireturn, 31, 0, []))]
/-- X5_poke -/
def fj_c16 : List (Nat × fj_I) := [(0, (.iload_n 1, 1, 0, [])),
  (1, (.invokestatic 43, 4, 35, [])),
  (4, (.ifCond .ne 5, 7, 9, [])),
  (7, (.iconst 0, 8, 0, [])),
  (8, (.ireturn, 9, 0, [])),
  (9, (.aload_n 0, 10, 0, [])),
  (10, (.getfield 9, 13, 0, [])),
  (13, (.iload_n 1, 14, 0, [])),
  (14, (.iaload, 15, 0, [])),
  (15, (.istore_n 3, 16, 0, [])),
  (16, (.aload_n 0, 17, 0, [])),
  (17, (.getfield 9, 20, 0, [])),
  (20, (.iload_n 1, 21, 0, [])),
  (21, (.iload_n 2, 22, 0, [])),
  (22, (.iastore, 23, 0, [])),
  (23, (.iload_n 3, 24, 0, [])),
  (24, (.ireturn, 25, 0, []))]
/-- X5_code -/
def fj_c17 : List (Nat × fj_I) := [(0, (.iload_n 1, 1, 0, [])),
  (1, (.invokestatic 43, 4, 35, [])),
  (4, (.ifCond .eq 12, 7, 16, [])),
  (7, (.aload_n 0, 8, 0, [])),
  (8, (.getfield 9, 11, 0, [])),
  (11, (.iload_n 1, 12, 0, [])),
  (12, (.iaload, 13, 0, [])),
  (13, (.goto 4, 16, 17, [])),
  (16, (.iconst 0, 17, 0, [])),
  (17, (.ireturn, 18, 0, []))]
/-- X5_word -/
def fj_c18 : List (Nat × fj_I) := [(0, (.iload_n 1, 1, 0, [])),
  (1, (.ifCond .lt 19, 4, 20, [])),
  (4, (.iload_n 1, 5, 0, [])),
  (5, (.sipush 255, 8, 0, [])),
  (8, (.if_icmp .gt 12, 11, 20, [])),
  (11, (.iload_n 2, 12, 0, [])),
  (12, (.bipush 8, 14, 0, [])),
  (14, (.ishl, 15, 0, [])),
  (15, (.iload_n 1, 16, 0, [])),
  (16, (.ior, 17, 0, [])),
  (17, (.goto 4, 20, 21, [])),
  (20, (.iconst 0, 21, 0, [])),
  (21, (.ireturn, 22, 0, []))]
/-- X5_spawn -/
def fj_c19 : List (Nat × fj_I) := [(0, (.iload_n 1, 1, 0, [])),
  (1, (.invokestatic 43, 4, 35, [])),
  (4, (.ifCond .ne 6, 7, 10, [])),
  (7, (.bipush (-2), 9, 0, [])),
  (9, (.ireturn, 10, 0, [])),
  (10, (.aload_n 0, 11, 0, [])),
  (11, (.iload_n 1, 12, 0, [])),
  (12, (.iload_n 2, 13, 0, [])),
  (13, (.invokevirtual 47, 16, 44, [])),
  (16, (.istore_n 3, 17, 0, [])),
  (17, (.iload_n 3, 18, 0, [])),
  (18, (.iconst (-1), 19, 0, [])),
  (19, (.if_icmp .ne 8, 22, 27, [])),
  (22, (.bipush (-4), 24, 0, [])),
  (24, (.goto 4, 27, 28, [])),
  (27, (.iload_n 3, 28, 0, [])),
  (28, (.ireturn, 29, 0, []))]
/-- X5_quantum -/
def fj_c20 : List (Nat × fj_I) := [(0, (.iload_n 1, 1, 0, [])),
  (1, (.iconst 1, 2, 0, [])),
  (2, (.if_icmp .lt 9, 5, 11, [])),
  (5, (.iload_n 1, 6, 0, [])),
  (6, (.bipush 50, 8, 0, [])),
  (8, (.if_icmp .le 6, 11, 14, [])),
  (11, (.bipush (-2), 13, 0, [])),
  (13, (.ireturn, 14, 0, [])),
  (14, (.aload_n 0, 15, 0, [])),
  (15, (.getfield 34, 18, 6, [])),
  (18, (.istore_n 2, 19, 0, [])),
  (19, (.aload_n 0, 20, 0, [])),
  (20, (.iload_n 1, 21, 0, [])),
  (21, (.putfield 34, 24, 6, [])),
  (24, (.iload_n 2, 25, 0, [])),
  (25, (.ireturn, 26, 0, []))]
/-- X5_size -/
def fj_c21 : List (Nat × fj_I) := [(0, (.iload_n 1, 1, 0, [])),
  (1, (.invokestatic 51, 4, 38, [])),
  (4, (.ifCond .ne 5, 7, 9, [])),
  (7, (.iconst (-1), 8, 0, [])),
  (8, (.ireturn, 9, 0, [])),
  (9, (.aload_n 0, 10, 0, [])),
  (10, (.getfield 27, 13, 4, [])),
  (13, (.iload_n 1, 14, 0, [])),
  (14, (.aaload, 15, 0, [])),
  (15, (.astore_n 3, 16, 0, [])),
  (16, (.iload_n 2, 17, 0, [])),
  (17, (.iconst 1, 18, 0, [])),
  (18, (.if_icmp .lt 17, 21, 35, [])),
  (21, (.iload_n 2, 22, 0, [])),
  (22, (.bipush 8, 24, 0, [])),
  (24, (.if_icmp .gt 11, 27, 35, [])),
  (27, (.iload_n 2, 28, 0, [])),
  (28, (.aload_n 3, 29, 0, [])),
  (29, (.getfield 54, 32, 1001, [])),
  (32, (.if_icmp .ge 6, 35, 38, [])),
  (35, (.bipush (-2), 37, 0, [])),
  (37, (.ireturn, 38, 0, [])),
  (38, (.aload_n 3, 39, 0, [])),
  (39, (.getfield 57, 42, 1002, [])),
  (42, (.istore 4, 44, 0, [])),
  (44, (.aload_n 3, 45, 0, [])),
  (45, (.iload_n 2, 46, 0, [])),
  (46, (.putfield 57, 49, 1002, [])),
  (49, (.aload_n 0, 50, 0, [])),
  (50, (.invokevirtual 60, 53, 47, [])),
  (53, (.iload 4, 55, 0, [])),
  (55, (.ireturn, 56, 0, []))]
/-- X5_put -/
def fj_c22 : List (Nat × fj_I) := [(0, (.iload_n 1, 1, 0, [])),
  (1, (.invokestatic 51, 4, 38, [])),
  (4, (.ifCond .ne 5, 7, 9, [])),
  (7, (.iconst (-1), 8, 0, [])),
  (8, (.ireturn, 9, 0, [])),
  (9, (.aload_n 0, 10, 0, [])),
  (10, (.iload_n 1, 11, 0, [])),
  (11, (.invokevirtual 63, 14, 40, [])),
  (14, (.ifCond .ne 6, 17, 20, [])),
  (17, (.bipush (-4), 19, 0, [])),
  (19, (.ireturn, 20, 0, [])),
  (20, (.aload_n 0, 21, 0, [])),
  (21, (.getfield 27, 24, 4, [])),
  (24, (.iload_n 1, 25, 0, [])),
  (25, (.aaload, 26, 0, [])),
  (26, (.iload_n 2, 27, 0, [])),
  (27, (.invokevirtual 66, 30, 0, [])),
  (30, (.aload_n 0, 31, 0, [])),
  (31, (.invokevirtual 60, 34, 47, [])),
  (34, (.aload_n 0, 35, 0, [])),
  (35, (.getfield 27, 38, 4, [])),
  (38, (.iload_n 1, 39, 0, [])),
  (39, (.aaload, 40, 0, [])),
  (40, (.getfield 54, 43, 1001, [])),
  (43, (.ireturn, 44, 0, []))]
/-- X5_take -/
def fj_c23 : List (Nat × fj_I) := [(0, (.aload_n 0, 1, 0, [])),
  (1, (.iload_n 1, 2, 0, [])),
  (2, (.invokevirtual 70, 5, 41, [])),
  (5, (.ifCond .ne 5, 8, 10, [])),
  (8, (.iconst 0, 9, 0, [])),
  (9, (.ireturn, 10, 0, [])),
  (10, (.aload_n 0, 11, 0, [])),
  (11, (.getfield 27, 14, 4, [])),
  (14, (.iload_n 1, 15, 0, [])),
  (15, (.aaload, 16, 0, [])),
  (16, (.invokevirtual 73, 19, 1, [])),
  (19, (.istore_n 2, 20, 0, [])),
  (20, (.aload_n 0, 21, 0, [])),
  (21, (.invokevirtual 60, 24, 47, [])),
  (24, (.iload_n 2, 25, 0, [])),
  (25, (.ireturn, 26, 0, []))]
/-- X5_step -/
def fj_c24 : List (Nat × fj_I) := [(0, (.aload_n 0, 1, 0, [])),
  (1, (.invokevirtual 77, 4, 49, [])),
  (4, (.ireturn, 5, 0, []))]
/-- X5_run -/
def fj_c25 : List (Nat × fj_I) := [(0, (.iload_n 1, 1, 0, [])),
  (1, (.ifCond .lt 10, 4, 11, [])),
  (4, (.iload_n 1, 5, 0, [])),
  (5, (.sipush 5000, 8, 0, [])),
  (8, (.if_icmp .le 6, 11, 14, [])),
  (11, (.bipush (-2), 13, 0, [])),
  (13, (.ireturn, 14, 0, [])),
  (14, (.iconst 0, 15, 0, [])),
  (15, (.istore_n 2, 16, 0, [])),
  (16, (.iload_n 2, 17, 0, [])),
  (17, (.iload_n 1, 18, 0, [])),
  (18, (.if_icmp .ge 26, 21, 44, [])),
  (21, (.aload_n 0, 22, 0, [])),
  (22, (.invokevirtual 77, 25, 49, [])),
  (25, (.istore_n 3, 26, 0, [])),
  (26, (.iload_n 3, 27, 0, [])),
  (27, (.iconst 2, 28, 0, [])),
  (28, (.if_icmp .eq 8, 31, 36, [])),
  (31, (.iload_n 3, 32, 0, [])),
  (32, (.iconst 3, 33, 0, [])),
  (33, (.if_icmp .ne 5, 36, 38, [])),
  (36, (.iload_n 2, 37, 0, [])),
  (37, (.ireturn, 38, 0, [])),
  (38, (.iinc 2 1, 41, 0, [])),
  (41, (.goto (-25), 44, 16, [])),
  (44, (.iload_n 1, 45, 0, [])),
  (45, (.ireturn, 46, 0, []))]
/-- X5_latest -/
def fj_c26 : List (Nat × fj_I) := [(0, (.aload_n 0, 1, 0, [])),
  (1, (.getfield 38, 4, 7, [])),
  (4, (.ireturn, 5, 0, []))]
/-- X5_state -/
def fj_c27 : List (Nat × fj_I) := [(0, (.iload_n 1, 1, 0, [])),
  (1, (.invokestatic 80, 4, 37, [])),
  (4, (.ifCond .eq 15, 7, 19, [])),
  (7, (.aload_n 0, 8, 0, [])),
  (8, (.getfield 21, 11, 3, [])),
  (11, (.iload_n 1, 12, 0, [])),
  (12, (.aaload, 13, 0, [])),
  (13, (.getfield 83, 16, 702, [])),
  (16, (.goto 4, 19, 20, [])),
  (19, (.iconst (-1), 20, 0, [])),
  (20, (.ireturn, 21, 0, []))]
/-- X5_about -/
def fj_c28 : List (Nat × fj_I) := [(0, (.iload_n 1, 1, 0, [])),
  (1, (.invokestatic 80, 4, 37, [])),
  (4, (.ifCond .ne 6, 7, 10, [])),
  (7, (.ldc 86, 9, 0, [(-1000000001, 0)])),
  (9, (.ireturn, 10, 0, [])),
  (10, (.aload_n 0, 11, 0, [])),
  (11, (.getfield 21, 14, 3, [])),
  (14, (.iload_n 1, 15, 0, [])),
  (15, (.aaload, 16, 0, [])),
  (16, (.astore_n 3, 17, 0, [])),
  (17, (.iload_n 2, 18, 0, [])),
  (18, (.tableswitch 89 0 6 #[42, 47, 52, 57, 62, 67, 84], 60, 107, [(0, 60), (1, 65), (2, 70), (3, 75), (4, 80), (5, 85), (6, 102)])),
  (60, (.aload_n 3, 61, 0, [])),
  (61, (.getfield 87, 64, 703, [])),
  (64, (.ireturn, 65, 0, [])),
  (65, (.aload_n 3, 66, 0, [])),
  (66, (.getfield 90, 69, 704, [])),
  (69, (.ireturn, 70, 0, [])),
  (70, (.aload_n 3, 71, 0, [])),
  (71, (.getfield 93, 74, 705, [])),
  (74, (.ireturn, 75, 0, [])),
  (75, (.aload_n 3, 76, 0, [])),
  (76, (.getfield 96, 79, 706, [])),
  (79, (.ireturn, 80, 0, [])),
  (80, (.aload_n 3, 81, 0, [])),
  (81, (.getfield 99, 84, 707, [])),
  (84, (.ireturn, 85, 0, [])),
  (85, (.aload_n 3, 86, 0, [])),
  (86, (.getfield 83, 89, 702, [])),
  (89, (.iconst 5, 90, 0, [])),
  (90, (.if_icmp .ne 10, 93, 100, [])),
  (93, (.aload_n 3, 94, 0, [])),
  (94, (.getfield 104, 97, 708, [])),
  (97, (.goto 4, 100, 101, [])),
  (100, (.iconst 0, 101, 0, [])),
  (101, (.ireturn, 102, 0, [])),
  (102, (.aload_n 3, 103, 0, [])),
  (103, (.getfield 107, 106, 709, [])),
  (106, (.ireturn, 107, 0, [])),
  (107, (.ldc 86, 109, 0, [(-1000000001, 0)])),
  (109, (.ireturn, 110, 0, []))]
/-- X5_stack -/
def fj_c29 : List (Nat × fj_I) := [(0, (.iload_n 1, 1, 0, [])),
  (1, (.invokestatic 80, 4, 37, [])),
  (4, (.ifCond .eq 34, 7, 38, [])),
  (7, (.iload_n 2, 8, 0, [])),
  (8, (.ifCond .lt 30, 11, 38, [])),
  (11, (.iload_n 2, 12, 0, [])),
  (12, (.aload_n 0, 13, 0, [])),
  (13, (.getfield 21, 16, 3, [])),
  (16, (.iload_n 1, 17, 0, [])),
  (17, (.aaload, 18, 0, [])),
  (18, (.getfield 90, 21, 704, [])),
  (21, (.if_icmp .ge 17, 24, 38, [])),
  (24, (.aload_n 0, 25, 0, [])),
  (25, (.getfield 21, 28, 3, [])),
  (28, (.iload_n 1, 29, 0, [])),
  (29, (.aaload, 30, 0, [])),
  (30, (.getfield 110, 33, 700, [])),
  (33, (.iload_n 2, 34, 0, [])),
  (34, (.iaload, 35, 0, [])),
  (35, (.goto 4, 38, 39, [])),
  (38, (.iconst 0, 39, 0, [])),
  (39, (.ireturn, 40, 0, []))]
/-- X5_held -/
def fj_c30 : List (Nat × fj_I) := [(0, (.iload_n 1, 1, 0, [])),
  (1, (.invokestatic 51, 4, 38, [])),
  (4, (.ifCond .eq 15, 7, 19, [])),
  (7, (.aload_n 0, 8, 0, [])),
  (8, (.getfield 27, 11, 4, [])),
  (11, (.iload_n 1, 12, 0, [])),
  (12, (.aaload, 13, 0, [])),
  (13, (.getfield 54, 16, 1001, [])),
  (16, (.goto 4, 19, 20, [])),
  (19, (.iconst (-1), 20, 0, [])),
  (20, (.ireturn, 21, 0, []))]
/-- X5_channel -/
def fj_c31 : List (Nat × fj_I) := [(0, (.iload_n 1, 1, 0, [])),
  (1, (.invokestatic 51, 4, 38, [])),
  (4, (.ifCond .eq 34, 7, 38, [])),
  (7, (.iload_n 2, 8, 0, [])),
  (8, (.ifCond .lt 30, 11, 38, [])),
  (11, (.iload_n 2, 12, 0, [])),
  (12, (.aload_n 0, 13, 0, [])),
  (13, (.getfield 27, 16, 4, [])),
  (16, (.iload_n 1, 17, 0, [])),
  (17, (.aaload, 18, 0, [])),
  (18, (.getfield 54, 21, 1001, [])),
  (21, (.if_icmp .ge 17, 24, 38, [])),
  (24, (.aload_n 0, 25, 0, [])),
  (25, (.getfield 27, 28, 4, [])),
  (28, (.iload_n 1, 29, 0, [])),
  (29, (.aaload, 30, 0, [])),
  (30, (.getfield 113, 33, 1000, [])),
  (33, (.iload_n 2, 34, 0, [])),
  (34, (.iaload, 35, 0, [])),
  (35, (.goto 4, 38, 39, [])),
  (38, (.iconst 0, 39, 0, [])),
  (39, (.ireturn, 40, 0, []))]
/-- X5_memory -/
def fj_c32 : List (Nat × fj_I) := [(0, (.iload_n 1, 1, 0, [])),
  (1, (.invokestatic 116, 4, 36, [])),
  (4, (.ifCond .eq 12, 7, 16, [])),
  (7, (.aload_n 0, 8, 0, [])),
  (8, (.getfield 13, 11, 1, [])),
  (11, (.iload_n 1, 12, 0, [])),
  (12, (.iaload, 13, 0, [])),
  (13, (.goto 4, 16, 17, [])),
  (16, (.iconst 0, 17, 0, [])),
  (17, (.ireturn, 18, 0, []))]
/-- X5_record -/
def fj_c33 : List (Nat × fj_I) := [(0, (.iload_n 1, 1, 0, [])),
  (1, (.ifCond .lt 27, 4, 28, [])),
  (4, (.iload_n 1, 5, 0, [])),
  (5, (.aload_n 0, 6, 0, [])),
  (6, (.getfield 119, 9, 11, [])),
  (9, (.if_icmp .ge 19, 12, 28, [])),
  (12, (.iload_n 1, 13, 0, [])),
  (13, (.sipush 300, 16, 0, [])),
  (16, (.if_icmp .ge 12, 19, 28, [])),
  (19, (.aload_n 0, 20, 0, [])),
  (20, (.getfield 16, 23, 2, [])),
  (23, (.iload_n 1, 24, 0, [])),
  (24, (.iaload, 25, 0, [])),
  (25, (.goto 4, 28, 29, [])),
  (28, (.iconst 0, 29, 0, [])),
  (29, (.ireturn, 30, 0, []))]
/-- X5_told -/
def fj_c34 : List (Nat × fj_I) := [(0, (.iload_n 1, 1, 0, [])),
  (1, (.tableswitch 88 0 7 #[47, 52, 57, 62, 67, 72, 78, 83], 48, 89, [(0, 48), (1, 53), (2, 58), (3, 63), (4, 68), (5, 73), (6, 79), (7, 84)])),
  (48, (.aload_n 0, 49, 0, [])),
  (49, (.getfield 122, 52, 10, [])),
  (52, (.ireturn, 53, 0, [])),
  (53, (.aload_n 0, 54, 0, [])),
  (54, (.getfield 125, 57, 8, [])),
  (57, (.ireturn, 58, 0, [])),
  (58, (.aload_n 0, 59, 0, [])),
  (59, (.getfield 128, 62, 9, [])),
  (62, (.ireturn, 63, 0, [])),
  (63, (.aload_n 0, 64, 0, [])),
  (64, (.getfield 119, 67, 11, [])),
  (67, (.ireturn, 68, 0, [])),
  (68, (.aload_n 0, 69, 0, [])),
  (69, (.invokevirtual 131, 72, 42, [])),
  (72, (.ireturn, 73, 0, [])),
  (73, (.aload_n 0, 74, 0, [])),
  (74, (.iconst 1, 75, 0, [])),
  (75, (.invokevirtual 134, 78, 43, [])),
  (78, (.ireturn, 79, 0, [])),
  (79, (.aload_n 0, 80, 0, [])),
  (80, (.getfield 138, 83, 12, [])),
  (83, (.ireturn, 84, 0, [])),
  (84, (.aload_n 0, 85, 0, [])),
  (85, (.getfield 141, 88, 13, [])),
  (88, (.ireturn, 89, 0, [])),
  (89, (.bipush (-2), 91, 0, [])),
  (91, (.ireturn, 92, 0, []))]
/-- X5_isCodePlace -/
def fj_c35 : List (Nat × fj_I) := [(0, (.iload_n 0, 1, 0, [])),
  (1, (.ifCond .lt 14, 4, 15, [])),
  (4, (.iload_n 0, 5, 0, [])),
  (5, (.sipush 512, 8, 0, [])),
  (8, (.if_icmp .ge 7, 11, 15, [])),
  (11, (.iconst 1, 12, 0, [])),
  (12, (.goto 4, 15, 16, [])),
  (15, (.iconst 0, 16, 0, [])),
  (16, (.ireturn, 17, 0, []))]
/-- X5_isMemoryPlace -/
def fj_c36 : List (Nat × fj_I) := [(0, (.iload_n 0, 1, 0, [])),
  (1, (.ifCond .lt 13, 4, 14, [])),
  (4, (.iload_n 0, 5, 0, [])),
  (5, (.bipush 64, 7, 0, [])),
  (7, (.if_icmp .ge 7, 10, 14, [])),
  (10, (.iconst 1, 11, 0, [])),
  (11, (.goto 4, 14, 15, [])),
  (14, (.iconst 0, 15, 0, [])),
  (15, (.ireturn, 16, 0, []))]
/-- X5_isTask -/
def fj_c37 : List (Nat × fj_I) := [(0, (.iload_n 0, 1, 0, [])),
  (1, (.ifCond .lt 13, 4, 14, [])),
  (4, (.iload_n 0, 5, 0, [])),
  (5, (.bipush 12, 7, 0, [])),
  (7, (.if_icmp .ge 7, 10, 14, [])),
  (10, (.iconst 1, 11, 0, [])),
  (11, (.goto 4, 14, 15, [])),
  (14, (.iconst 0, 15, 0, [])),
  (15, (.ireturn, 16, 0, []))]
/-- X5_isChannel -/
def fj_c38 : List (Nat × fj_I) := [(0, (.iload_n 0, 1, 0, [])),
  (1, (.ifCond .lt 13, 4, 14, [])),
  (4, (.iload_n 0, 5, 0, [])),
  (5, (.bipush 6, 7, 0, [])),
  (7, (.if_icmp .ge 7, 10, 14, [])),
  (10, (.iconst 1, 11, 0, [])),
  (11, (.goto 4, 14, 15, [])),
  (14, (.iconst 0, 15, 0, [])),
  (15, (.ireturn, 16, 0, []))]
/-- X5_isLive -/
def fj_c39 : List (Nat × fj_I) := [(0, (.iload_n 1, 1, 0, [])),
  (1, (.ifCond .lt 25, 4, 26, [])),
  (4, (.iload_n 1, 5, 0, [])),
  (5, (.bipush 12, 7, 0, [])),
  (7, (.if_icmp .ge 19, 10, 26, [])),
  (10, (.aload_n 0, 11, 0, [])),
  (11, (.getfield 21, 14, 3, [])),
  (14, (.iload_n 1, 15, 0, [])),
  (15, (.aaload, 16, 0, [])),
  (16, (.invokevirtual 144, 19, 6, [])),
  (19, (.ifCond .eq 7, 22, 26, [])),
  (22, (.iconst 1, 23, 0, [])),
  (23, (.goto 4, 26, 27, [])),
  (26, (.iconst 0, 27, 0, [])),
  (27, (.ireturn, 28, 0, []))]
/-- X5_hasRoom -/
def fj_c40 : List (Nat × fj_I) := [(0, (.iload_n 1, 1, 0, [])),
  (1, (.ifCond .lt 34, 4, 35, [])),
  (4, (.iload_n 1, 5, 0, [])),
  (5, (.bipush 6, 7, 0, [])),
  (7, (.if_icmp .ge 28, 10, 35, [])),
  (10, (.aload_n 0, 11, 0, [])),
  (11, (.getfield 27, 14, 4, [])),
  (14, (.iload_n 1, 15, 0, [])),
  (15, (.aaload, 16, 0, [])),
  (16, (.getfield 54, 19, 1001, [])),
  (19, (.aload_n 0, 20, 0, [])),
  (20, (.getfield 27, 23, 4, [])),
  (23, (.iload_n 1, 24, 0, [])),
  (24, (.aaload, 25, 0, [])),
  (25, (.getfield 57, 28, 1002, [])),
  (28, (.if_icmp .ge 7, 31, 35, [])),
  (31, (.iconst 1, 32, 0, [])),
  (32, (.goto 4, 35, 36, [])),
  (35, (.iconst 0, 36, 0, [])),
  (36, (.ireturn, 37, 0, []))]
/-- X5_hasInts -/
def fj_c41 : List (Nat × fj_I) := [(0, (.iload_n 1, 1, 0, [])),
  (1, (.ifCond .lt 25, 4, 26, [])),
  (4, (.iload_n 1, 5, 0, [])),
  (5, (.bipush 6, 7, 0, [])),
  (7, (.if_icmp .ge 19, 10, 26, [])),
  (10, (.aload_n 0, 11, 0, [])),
  (11, (.getfield 27, 14, 4, [])),
  (14, (.iload_n 1, 15, 0, [])),
  (15, (.aaload, 16, 0, [])),
  (16, (.getfield 54, 19, 1001, [])),
  (19, (.ifCond .le 7, 22, 26, [])),
  (22, (.iconst 1, 23, 0, [])),
  (23, (.goto 4, 26, 27, [])),
  (26, (.iconst 0, 27, 0, [])),
  (27, (.ireturn, 28, 0, []))]
/-- X5_countLive -/
def fj_c42 : List (Nat × fj_I) := [(0, (.iconst 0, 1, 0, [])),
  (1, (.istore_n 1, 2, 0, [])),
  (2, (.iconst 0, 3, 0, [])),
  (3, (.istore_n 2, 4, 0, [])),
  (4, (.iload_n 2, 5, 0, [])),
  (5, (.bipush 12, 7, 0, [])),
  (7, (.if_icmp .ge 29, 10, 36, [])),
  (10, (.iload_n 1, 11, 0, [])),
  (11, (.aload_n 0, 12, 0, [])),
  (12, (.getfield 21, 15, 3, [])),
  (15, (.iload_n 2, 16, 0, [])),
  (16, (.aaload, 17, 0, [])),
  (17, (.invokevirtual 144, 20, 6, [])),
  (20, (.ifCond .eq 7, 23, 27, [])),
  (23, (.iconst 1, 24, 0, [])),
  (24, (.goto 4, 27, 28, [])),
  (27, (.iconst 0, 28, 0, [])),
  (28, (.iadd, 29, 0, [])),
  (29, (.istore_n 1, 30, 0, [])),
  (30, (.iinc 2 1, 33, 0, [])),
  (33, (.goto (-29), 36, 4, [])),
  (36, (.iload_n 1, 37, 0, [])),
  (37, (.ireturn, 38, 0, []))]
/-- X5_countIn -/
def fj_c43 : List (Nat × fj_I) := [(0, (.iconst 0, 1, 0, [])),
  (1, (.istore_n 2, 2, 0, [])),
  (2, (.iconst 0, 3, 0, [])),
  (3, (.istore_n 3, 4, 0, [])),
  (4, (.iload_n 3, 5, 0, [])),
  (5, (.bipush 12, 7, 0, [])),
  (7, (.if_icmp .ge 30, 10, 37, [])),
  (10, (.iload_n 2, 11, 0, [])),
  (11, (.aload_n 0, 12, 0, [])),
  (12, (.getfield 21, 15, 3, [])),
  (15, (.iload_n 3, 16, 0, [])),
  (16, (.aaload, 17, 0, [])),
  (17, (.getfield 83, 20, 702, [])),
  (20, (.iload_n 1, 21, 0, [])),
  (21, (.if_icmp .ne 7, 24, 28, [])),
  (24, (.iconst 1, 25, 0, [])),
  (25, (.goto 4, 28, 29, [])),
  (28, (.iconst 0, 29, 0, [])),
  (29, (.iadd, 30, 0, [])),
  (30, (.istore_n 2, 31, 0, [])),
  (31, (.iinc 3 1, 34, 0, [])),
  (34, (.goto (-30), 37, 4, [])),
  (37, (.iload_n 2, 38, 0, [])),
  (38, (.ireturn, 39, 0, []))]
/-- X5_startTask -/
def fj_c44 : List (Nat × fj_I) := [(0, (.aload_n 0, 1, 0, [])),
  (1, (.invokevirtual 148, 4, 45, [])),
  (4, (.istore_n 3, 5, 0, [])),
  (5, (.iload_n 3, 6, 0, [])),
  (6, (.invokestatic 80, 9, 37, [])),
  (9, (.ifCond .ne 5, 12, 14, [])),
  (12, (.iconst (-1), 13, 0, [])),
  (13, (.ireturn, 14, 0, [])),
  (14, (.iconst 0, 15, 0, [])),
  (15, (.istore 4, 17, 0, [])),
  (17, (.iload 4, 19, 0, [])),
  (19, (.bipush 12, 21, 0, [])),
  (21, (.if_icmp .ge 29, 24, 50, [])),
  (24, (.aload_n 0, 25, 0, [])),
  (25, (.getfield 21, 28, 3, [])),
  (28, (.iload 4, 30, 0, [])),
  (30, (.aaload, 31, 0, [])),
  (31, (.dup, 32, 0, [])),
  (32, (.getfield 99, 35, 707, [])),
  (35, (.iconst 1, 36, 0, [])),
  (36, (.iload_n 3, 37, 0, [])),
  (37, (.ishl, 38, 0, [])),
  (38, (.iconst (-1), 39, 0, [])),
  (39, (.ixor, 40, 0, [])),
  (40, (.iand, 41, 0, [])),
  (41, (.putfield 99, 44, 707, [])),
  (44, (.iinc 4 1, 47, 0, [])),
  (47, (.goto (-30), 50, 17, [])),
  (50, (.aload_n 0, 51, 0, [])),
  (51, (.getfield 21, 54, 3, [])),
  (54, (.iload_n 3, 55, 0, [])),
  (55, (.aaload, 56, 0, [])),
  (56, (.iload_n 1, 57, 0, [])),
  (57, (.iload_n 2, 58, 0, [])),
  (58, (.invokevirtual 151, 61, 7, [])),
  (61, (.aload_n 0, 62, 0, [])),
  (62, (.dup, 63, 0, [])),
  (63, (.getfield 138, 66, 12, [])),
  (66, (.iconst 1, 67, 0, [])),
  (67, (.iadd, 68, 0, [])),
  (68, (.putfield 138, 71, 12, [])),
  (71, (.iload_n 3, 72, 0, [])),
  (72, (.ireturn, 73, 0, []))]
/-- X5_leastNotLive -/
def fj_c45 : List (Nat × fj_I) := [(0, (.iconst 0, 1, 0, [])),
  (1, (.istore_n 1, 2, 0, [])),
  (2, (.iload_n 1, 3, 0, [])),
  (3, (.bipush 12, 5, 0, [])),
  (5, (.if_icmp .ge 23, 8, 28, [])),
  (8, (.aload_n 0, 9, 0, [])),
  (9, (.getfield 21, 12, 3, [])),
  (12, (.iload_n 1, 13, 0, [])),
  (13, (.aaload, 14, 0, [])),
  (14, (.invokevirtual 144, 17, 6, [])),
  (17, (.ifCond .ne 5, 20, 22, [])),
  (20, (.iload_n 1, 21, 0, [])),
  (21, (.ireturn, 22, 0, [])),
  (22, (.iinc 1 1, 25, 0, [])),
  (25, (.goto (-23), 28, 2, [])),
  (28, (.iconst (-1), 29, 0, [])),
  (29, (.ireturn, 30, 0, []))]
/-- X5_wakeSleepers -/
def fj_c46 : List (Nat × fj_I) := [(0, (.iconst 0, 1, 0, [])),
  (1, (.istore_n 1, 2, 0, [])),
  (2, (.iload_n 1, 3, 0, [])),
  (3, (.bipush 12, 5, 0, [])),
  (5, (.if_icmp .ge 48, 8, 53, [])),
  (8, (.aload_n 0, 9, 0, [])),
  (9, (.getfield 21, 12, 3, [])),
  (12, (.iload_n 1, 13, 0, [])),
  (13, (.aaload, 14, 0, [])),
  (14, (.getfield 83, 17, 702, [])),
  (17, (.iconst 5, 18, 0, [])),
  (18, (.if_icmp .ne 29, 21, 47, [])),
  (21, (.aload_n 0, 22, 0, [])),
  (22, (.getfield 21, 25, 3, [])),
  (25, (.iload_n 1, 26, 0, [])),
  (26, (.aaload, 27, 0, [])),
  (27, (.getfield 104, 30, 708, [])),
  (30, (.aload_n 0, 31, 0, [])),
  (31, (.getfield 122, 34, 10, [])),
  (34, (.if_icmp .gt 13, 37, 47, [])),
  (37, (.aload_n 0, 38, 0, [])),
  (38, (.getfield 21, 41, 3, [])),
  (41, (.iload_n 1, 42, 0, [])),
  (42, (.aaload, 43, 0, [])),
  (43, (.iconst 1, 44, 0, [])),
  (44, (.putfield 83, 47, 702, [])),
  (47, (.iinc 1 1, 50, 0, [])),
  (50, (.goto (-48), 53, 2, [])),
  (53, (.return_, 54, 0, []))]
/-- X5_wakeWaiting -/
def fj_c47 : List (Nat × fj_I) := [(0, (.iconst 0, 1, 0, [])),
  (1, (.istore_n 1, 2, 0, [])),
  (2, (.iload_n 1, 3, 0, [])),
  (3, (.bipush 12, 5, 0, [])),
  (5, (.if_icmp .ge 32, 8, 37, [])),
  (8, (.aload_n 0, 9, 0, [])),
  (9, (.aload_n 0, 10, 0, [])),
  (10, (.getfield 21, 13, 3, [])),
  (13, (.iload_n 1, 14, 0, [])),
  (14, (.aaload, 15, 0, [])),
  (15, (.invokevirtual 155, 18, 48, [])),
  (18, (.ifCond .eq 13, 21, 31, [])),
  (21, (.aload_n 0, 22, 0, [])),
  (22, (.getfield 21, 25, 3, [])),
  (25, (.iload_n 1, 26, 0, [])),
  (26, (.aaload, 27, 0, [])),
  (27, (.iconst 1, 28, 0, [])),
  (28, (.putfield 83, 31, 702, [])),
  (31, (.iinc 1 1, 34, 0, [])),
  (34, (.goto (-32), 37, 2, [])),
  (37, (.return_, 38, 0, []))]
/-- X5_isThere -/
def fj_c48 : List (Nat × fj_I) := [(0, (.aload_n 1, 1, 0, [])),
  (1, (.getfield 83, 4, 702, [])),
  (4, (.tableswitch 99 2 6 #[36, 45, 54, 99, 82], 40, 103, [(2, 40), (3, 49), (4, 58), (5, 103), (6, 86)])),
  (40, (.aload_n 0, 41, 0, [])),
  (41, (.aload_n 1, 42, 0, [])),
  (42, (.getfield 159, 45, 710, [])),
  (45, (.invokevirtual 63, 48, 40, [])),
  (48, (.ireturn, 49, 0, [])),
  (49, (.aload_n 0, 50, 0, [])),
  (50, (.aload_n 1, 51, 0, [])),
  (51, (.getfield 159, 54, 710, [])),
  (54, (.invokevirtual 70, 57, 41, [])),
  (57, (.ireturn, 58, 0, [])),
  (58, (.aload_n 0, 59, 0, [])),
  (59, (.aload_n 1, 60, 0, [])),
  (60, (.getfield 159, 63, 710, [])),
  (63, (.invokevirtual 70, 66, 41, [])),
  (66, (.ifCond .ne 14, 69, 80, [])),
  (69, (.aload_n 0, 70, 0, [])),
  (70, (.aload_n 1, 71, 0, [])),
  (71, (.getfield 162, 74, 711, [])),
  (74, (.invokevirtual 70, 77, 41, [])),
  (77, (.ifCond .eq 7, 80, 84, [])),
  (80, (.iconst 1, 81, 0, [])),
  (81, (.goto 4, 84, 85, [])),
  (84, (.iconst 0, 85, 0, [])),
  (85, (.ireturn, 86, 0, [])),
  (86, (.aload_n 0, 87, 0, [])),
  (87, (.aload_n 1, 88, 0, [])),
  (88, (.getfield 159, 91, 710, [])),
  (91, (.invokevirtual 165, 94, 39, [])),
  (94, (.ifCond .ne 7, 97, 101, [])),
  (97, (.iconst 1, 98, 0, [])),
  (98, (.goto 4, 101, 102, [])),
  (101, (.iconst 0, 102, 0, [])),
  (102, (.ireturn, 103, 0, [])),
  (103, (.iconst 0, 104, 0, [])),
  (104, (.ireturn, 105, 0, []))]
/-- X5_advance -/
def fj_c49 : List (Nat × fj_I) := [(0, (.aload_n 0, 1, 0, [])),
  (1, (.invokevirtual 167, 4, 46, [])),
  (4, (.aload_n 0, 5, 0, [])),
  (5, (.aload_n 0, 6, 0, [])),
  (6, (.invokevirtual 170, 9, 50, [])),
  (9, (.ifCond .eq 7, 12, 16, [])),
  (12, (.iconst 0, 13, 0, [])),
  (13, (.goto 7, 16, 20, [])),
  (16, (.aload_n 0, 17, 0, [])),
  (17, (.invokevirtual 173, 20, 51, [])),
  (20, (.putfield 38, 23, 7, [])),
  (23, (.aload_n 0, 24, 0, [])),
  (24, (.getfield 38, 27, 7, [])),
  (27, (.ifCond .ne 21, 30, 48, [])),
  (30, (.aload_n 0, 31, 0, [])),
  (31, (.dup, 32, 0, [])),
  (32, (.getfield 128, 35, 9, [])),
  (35, (.iconst 1, 36, 0, [])),
  (36, (.isub, 37, 0, [])),
  (37, (.putfield 128, 40, 9, [])),
  (40, (.aload_n 0, 41, 0, [])),
  (41, (.invokevirtual 176, 44, 52, [])),
  (44, (.aload_n 0, 45, 0, [])),
  (45, (.invokevirtual 60, 48, 47, [])),
  (48, (.aload_n 0, 49, 0, [])),
  (49, (.getfield 38, 52, 7, [])),
  (52, (.ifCond .eq 11, 55, 63, [])),
  (55, (.aload_n 0, 56, 0, [])),
  (56, (.getfield 38, 59, 7, [])),
  (59, (.iconst 1, 60, 0, [])),
  (60, (.if_icmp .ne 13, 63, 73, [])),
  (63, (.aload_n 0, 64, 0, [])),
  (64, (.dup, 65, 0, [])),
  (65, (.getfield 122, 68, 10, [])),
  (68, (.iconst 1, 69, 0, [])),
  (69, (.iadd, 70, 0, [])),
  (70, (.putfield 122, 73, 10, [])),
  (73, (.aload_n 0, 74, 0, [])),
  (74, (.getfield 38, 77, 7, [])),
  (77, (.ireturn, 78, 0, []))]
/-- X5_passTurn -/
def fj_c50 : List (Nat × fj_I) := [(0, (.aload_n 0, 1, 0, [])),
  (1, (.getfield 128, 4, 9, [])),
  (4, (.ifCond .le 21, 7, 25, [])),
  (7, (.aload_n 0, 8, 0, [])),
  (8, (.getfield 21, 11, 3, [])),
  (11, (.aload_n 0, 12, 0, [])),
  (12, (.getfield 125, 15, 8, [])),
  (15, (.aaload, 16, 0, [])),
  (16, (.getfield 83, 19, 702, [])),
  (19, (.iconst 1, 20, 0, [])),
  (20, (.if_icmp .ne 5, 23, 25, [])),
  (23, (.iconst 1, 24, 0, [])),
  (24, (.ireturn, 25, 0, [])),
  (25, (.iconst 1, 26, 0, [])),
  (26, (.istore_n 1, 27, 0, [])),
  (27, (.iload_n 1, 28, 0, [])),
  (28, (.bipush 12, 30, 0, [])),
  (30, (.if_icmp .gt 47, 33, 77, [])),
  (33, (.aload_n 0, 34, 0, [])),
  (34, (.getfield 125, 37, 8, [])),
  (37, (.iload_n 1, 38, 0, [])),
  (38, (.iadd, 39, 0, [])),
  (39, (.bipush 12, 41, 0, [])),
  (41, (.irem, 42, 0, [])),
  (42, (.istore_n 2, 43, 0, [])),
  (43, (.aload_n 0, 44, 0, [])),
  (44, (.getfield 21, 47, 3, [])),
  (47, (.iload_n 2, 48, 0, [])),
  (48, (.aaload, 49, 0, [])),
  (49, (.getfield 83, 52, 702, [])),
  (52, (.iconst 1, 53, 0, [])),
  (53, (.if_icmp .ne 18, 56, 71, [])),
  (56, (.aload_n 0, 57, 0, [])),
  (57, (.iload_n 2, 58, 0, [])),
  (58, (.putfield 125, 61, 8, [])),
  (61, (.aload_n 0, 62, 0, [])),
  (62, (.aload_n 0, 63, 0, [])),
  (63, (.getfield 34, 66, 6, [])),
  (66, (.putfield 128, 69, 9, [])),
  (69, (.iconst 1, 70, 0, [])),
  (70, (.ireturn, 71, 0, [])),
  (71, (.iinc 1 1, 74, 0, [])),
  (74, (.goto (-47), 77, 27, [])),
  (77, (.iconst 0, 78, 0, [])),
  (78, (.ireturn, 79, 0, []))]
/-- X5_standstill -/
def fj_c51 : List (Nat × fj_I) := [(0, (.aload_n 0, 1, 0, [])),
  (1, (.invokevirtual 131, 4, 42, [])),
  (4, (.ifCond .ne 5, 7, 9, [])),
  (7, (.iconst 2, 8, 0, [])),
  (8, (.ireturn, 9, 0, [])),
  (9, (.aload_n 0, 10, 0, [])),
  (10, (.iconst 5, 11, 0, [])),
  (11, (.invokevirtual 134, 14, 43, [])),
  (14, (.ifCond .le 7, 17, 21, [])),
  (17, (.iconst 1, 18, 0, [])),
  (18, (.goto 4, 21, 22, [])),
  (21, (.iconst 3, 22, 0, [])),
  (22, (.ireturn, 23, 0, []))]
/-- X5_doOp -/
def fj_c52 : List (Nat × fj_I) := [(0, (.aload_n 0, 1, 0, [])),
  (1, (.getfield 21, 4, 3, [])),
  (4, (.aload_n 0, 5, 0, [])),
  (5, (.getfield 125, 8, 8, [])),
  (8, (.aaload, 9, 0, [])),
  (9, (.astore_n 1, 10, 0, [])),
  (10, (.aload_n 1, 11, 0, [])),
  (11, (.getfield 87, 14, 703, [])),
  (14, (.invokestatic 43, 17, 35, [])),
  (17, (.ifCond .ne 13, 20, 30, [])),
  (20, (.aload_n 0, 21, 0, [])),
  (21, (.aload_n 0, 22, 0, [])),
  (22, (.getfield 125, 25, 8, [])),
  (25, (.iconst 1, 26, 0, [])),
  (26, (.invokevirtual 181, 29, 62, [])),
  (29, (.return_, 30, 0, [])),
  (30, (.aload_n 0, 31, 0, [])),
  (31, (.getfield 9, 34, 0, [])),
  (34, (.aload_n 1, 35, 0, [])),
  (35, (.getfield 87, 38, 703, [])),
  (38, (.iaload, 39, 0, [])),
  (39, (.sipush 255, 42, 0, [])),
  (42, (.iand, 43, 0, [])),
  (43, (.istore_n 2, 44, 0, [])),
  (44, (.aload_n 0, 45, 0, [])),
  (45, (.getfield 9, 48, 0, [])),
  (48, (.aload_n 1, 49, 0, [])),
  (49, (.getfield 87, 52, 703, [])),
  (52, (.iaload, 53, 0, [])),
  (53, (.bipush 8, 55, 0, [])),
  (55, (.ishr, 56, 0, [])),
  (56, (.istore_n 3, 57, 0, [])),
  (57, (.aload_n 0, 58, 0, [])),
  (58, (.aload_n 1, 59, 0, [])),
  (59, (.iload_n 2, 60, 0, [])),
  (60, (.iload_n 3, 61, 0, [])),
  (61, (.invokevirtual 184, 64, 54, [])),
  (64, (.istore 4, 66, 0, [])),
  (66, (.iload 4, 68, 0, [])),
  (68, (.ifCond .eq 16, 71, 84, [])),
  (71, (.aload_n 0, 72, 0, [])),
  (72, (.aload_n 0, 73, 0, [])),
  (73, (.getfield 125, 76, 8, [])),
  (76, (.iload 4, 78, 0, [])),
  (78, (.invokevirtual 181, 81, 62, [])),
  (81, (.goto 30, 84, 111, [])),
  (84, (.aload_n 0, 85, 0, [])),
  (85, (.aload_n 1, 86, 0, [])),
  (86, (.iload_n 2, 87, 0, [])),
  (87, (.iload_n 3, 88, 0, [])),
  (88, (.invokevirtual 188, 91, 53, [])),
  (91, (.ifCond .ne 20, 94, 111, [])),
  (94, (.aload_n 1, 95, 0, [])),
  (95, (.dup, 96, 0, [])),
  (96, (.getfield 87, 99, 703, [])),
  (99, (.iconst 1, 100, 0, [])),
  (100, (.iadd, 101, 0, [])),
  (101, (.putfield 87, 104, 703, [])),
  (104, (.aload_n 0, 105, 0, [])),
  (105, (.aload_n 1, 106, 0, [])),
  (106, (.iload_n 2, 107, 0, [])),
  (107, (.iload_n 3, 108, 0, [])),
  (108, (.invokevirtual 192, 111, 64, [])),
  (111, (.return_, 112, 0, []))]
/-- X5_mustWait -/
def fj_c53 : List (Nat × fj_I) := [(0, (.iload_n 2, 1, 0, [])),
  (1, (.lookupswitch 97 #[(31, 43), (32, 53), (35, 63), (41, 78)], 44, 98, [(31, 44), (32, 54), (35, 64), (41, 79)])),
  (44, (.aload_n 1, 45, 0, [])),
  (45, (.iconst 2, 46, 0, [])),
  (46, (.iload_n 3, 47, 0, [])),
  (47, (.iload_n 3, 48, 0, [])),
  (48, (.invokevirtual 196, 51, 10, [])),
  (51, (.goto 49, 54, 100, [])),
  (54, (.aload_n 1, 55, 0, [])),
  (55, (.iconst 3, 56, 0, [])),
  (56, (.iload_n 3, 57, 0, [])),
  (57, (.iload_n 3, 58, 0, [])),
  (58, (.invokevirtual 196, 61, 10, [])),
  (61, (.goto 39, 64, 100, [])),
  (64, (.aload_n 1, 65, 0, [])),
  (65, (.iconst 4, 66, 0, [])),
  (66, (.iload_n 3, 67, 0, [])),
  (67, (.bipush 7, 69, 0, [])),
  (69, (.iand, 70, 0, [])),
  (70, (.iload_n 3, 71, 0, [])),
  (71, (.iconst 3, 72, 0, [])),
  (72, (.ishr, 73, 0, [])),
  (73, (.invokevirtual 196, 76, 10, [])),
  (76, (.goto 24, 79, 100, [])),
  (79, (.aload_n 1, 80, 0, [])),
  (80, (.bipush 6, 82, 0, [])),
  (82, (.aload_n 1, 83, 0, [])),
  (83, (.iconst 0, 84, 0, [])),
  (84, (.invokevirtual 200, 87, 13, [])),
  (87, (.aload_n 1, 88, 0, [])),
  (88, (.iconst 0, 89, 0, [])),
  (89, (.invokevirtual 200, 92, 13, [])),
  (92, (.invokevirtual 196, 95, 10, [])),
  (95, (.goto 5, 98, 100, [])),
  (98, (.iconst 0, 99, 0, [])),
  (99, (.ireturn, 100, 0, [])),
  (100, (.aload_n 0, 101, 0, [])),
  (101, (.aload_n 1, 102, 0, [])),
  (102, (.invokevirtual 155, 105, 48, [])),
  (105, (.ifCond .eq 10, 108, 115, [])),
  (108, (.aload_n 1, 109, 0, [])),
  (109, (.iconst 1, 110, 0, [])),
  (110, (.putfield 83, 113, 702, [])),
  (113, (.iconst 0, 114, 0, [])),
  (114, (.ireturn, 115, 0, [])),
  (115, (.iconst 1, 116, 0, [])),
  (116, (.ireturn, 117, 0, []))]
/-- X5_faultOf -/
def fj_c54 : List (Nat × fj_I) := [(0, (.iload_n 2, 1, 0, [])),
  (1, (.invokestatic 203, 4, 2, [])),
  (4, (.ifCond .ne 5, 7, 9, [])),
  (7, (.iconst 1, 8, 0, [])),
  (8, (.ireturn, 9, 0, [])),
  (9, (.aload_n 1, 10, 0, [])),
  (10, (.iload_n 2, 11, 0, [])),
  (11, (.invokestatic 208, 14, 55, [])),
  (14, (.ifCond .eq 5, 17, 19, [])),
  (17, (.iconst 2, 18, 0, [])),
  (18, (.ireturn, 19, 0, [])),
  (19, (.aload_n 1, 20, 0, [])),
  (20, (.iconst 0, 21, 0, [])),
  (21, (.invokevirtual 200, 24, 13, [])),
  (24, (.istore 4, 26, 0, [])),
  (26, (.iload_n 2, 27, 0, [])),
  (27, (.bipush 9, 29, 0, [])),
  (29, (.if_icmp .eq 9, 32, 38, [])),
  (32, (.iload_n 2, 33, 0, [])),
  (33, (.bipush 10, 35, 0, [])),
  (35, (.if_icmp .ne 10, 38, 45, [])),
  (38, (.iload 4, 40, 0, [])),
  (40, (.ifCond .ne 5, 43, 45, [])),
  (43, (.iconst 4, 44, 0, [])),
  (44, (.ireturn, 45, 0, [])),
  (45, (.iload_n 2, 46, 0, [])),
  (46, (.iload_n 3, 47, 0, [])),
  (47, (.iload 4, 49, 0, [])),
  (49, (.invokestatic 212, 52, 56, [])),
  (52, (.ifCond .eq 5, 55, 57, [])),
  (55, (.iconst 5, 56, 0, [])),
  (56, (.ireturn, 57, 0, [])),
  (57, (.iload_n 2, 58, 0, [])),
  (58, (.iload_n 3, 59, 0, [])),
  (59, (.invokestatic 216, 62, 57, [])),
  (62, (.ifCond .eq 6, 65, 68, [])),
  (65, (.bipush 6, 67, 0, [])),
  (67, (.ireturn, 68, 0, [])),
  (68, (.iload_n 2, 69, 0, [])),
  (69, (.bipush 40, 71, 0, [])),
  (71, (.if_icmp .eq 15, 74, 86, [])),
  (74, (.iload_n 2, 75, 0, [])),
  (75, (.bipush 41, 77, 0, [])),
  (77, (.if_icmp .eq 9, 80, 86, [])),
  (80, (.iload_n 2, 81, 0, [])),
  (81, (.bipush 43, 83, 0, [])),
  (83, (.if_icmp .ne 7, 86, 90, [])),
  (86, (.iconst 1, 87, 0, [])),
  (87, (.goto 4, 90, 91, [])),
  (90, (.iconst 0, 91, 0, [])),
  (91, (.istore 5, 93, 0, [])),
  (93, (.iload 5, 95, 0, [])),
  (95, (.ifCond .eq 15, 98, 110, [])),
  (98, (.aload_n 0, 99, 0, [])),
  (99, (.iload 4, 101, 0, [])),
  (101, (.invokevirtual 220, 104, 58, [])),
  (104, (.ifCond .eq 6, 107, 110, [])),
  (107, (.bipush 7, 109, 0, [])),
  (109, (.ireturn, 110, 0, [])),
  (110, (.aload_n 0, 111, 0, [])),
  (111, (.aload_n 1, 112, 0, [])),
  (112, (.iload_n 2, 113, 0, [])),
  (113, (.iload_n 3, 114, 0, [])),
  (114, (.invokevirtual 223, 117, 60, [])),
  (117, (.ifCond .eq 5, 120, 122, [])),
  (120, (.iconst 3, 121, 0, [])),
  (121, (.ireturn, 122, 0, [])),
  (122, (.iload_n 2, 123, 0, [])),
  (123, (.bipush 43, 125, 0, [])),
  (125, (.if_icmp .ne 17, 128, 142, [])),
  (128, (.aload_n 0, 129, 0, [])),
  (129, (.iload 4, 131, 0, [])),
  (131, (.invokevirtual 226, 134, 59, [])),
  (134, (.ifCond .eq 8, 137, 142, [])),
  (137, (.bipush 8, 139, 0, [])),
  (139, (.goto 4, 142, 143, [])),
  (142, (.iconst 0, 143, 0, [])),
  (143, (.ireturn, 144, 0, []))]
/-- X5_lacksInts -/
def fj_c55 : List (Nat × fj_I) := [(0, (.aload_n 0, 1, 0, [])),
  (1, (.getfield 90, 4, 704, [])),
  (4, (.iload_n 1, 5, 0, [])),
  (5, (.invokestatic 229, 8, 4, [])),
  (8, (.if_icmp .ge 5, 11, 13, [])),
  (11, (.iconst 1, 12, 0, [])),
  (12, (.ireturn, 13, 0, [])),
  (13, (.iload_n 1, 14, 0, [])),
  (14, (.bipush 23, 16, 0, [])),
  (16, (.if_icmp .ne 16, 19, 32, [])),
  (19, (.aload_n 0, 20, 0, [])),
  (20, (.getfield 93, 23, 705, [])),
  (23, (.ifCond .ne 7, 26, 30, [])),
  (26, (.iconst 1, 27, 0, [])),
  (27, (.goto 4, 30, 31, [])),
  (30, (.iconst 0, 31, 0, [])),
  (31, (.ireturn, 32, 0, [])),
  (32, (.iload_n 1, 33, 0, [])),
  (33, (.bipush 45, 35, 0, [])),
  (35, (.if_icmp .ne 29, 38, 64, [])),
  (38, (.aload_n 0, 39, 0, [])),
  (39, (.iconst 0, 40, 0, [])),
  (40, (.invokevirtual 200, 43, 13, [])),
  (43, (.ifCond .lt 17, 46, 60, [])),
  (46, (.aload_n 0, 47, 0, [])),
  (47, (.iconst 0, 48, 0, [])),
  (48, (.invokevirtual 200, 51, 13, [])),
  (51, (.aload_n 0, 52, 0, [])),
  (52, (.getfield 90, 55, 704, [])),
  (55, (.iconst 1, 56, 0, [])),
  (56, (.isub, 57, 0, [])),
  (57, (.if_icmp .lt 7, 60, 64, [])),
  (60, (.iconst 1, 61, 0, [])),
  (61, (.goto 4, 64, 65, [])),
  (64, (.iconst 0, 65, 0, [])),
  (65, (.ireturn, 66, 0, []))]
/-- X5_lacksPlace -/
def fj_c56 : List (Nat × fj_I) := [(0, (.iload_n 0, 1, 0, [])),
  (1, (.tableswitch 164 20 42 #[107, 107, 107, 164, 138, 138, 151, 151, 107, 164, 164, 164, 164, 164, 164, 164, 164, 164, 164, 164, 164, 164, 120], 108, 165, [(20, 108), (21, 108), (22, 108), (23, 165), (24, 139), (25, 139), (26, 152), (27, 152), (28, 108), (29, 165), (30, 165), (31, 165), (32, 165), (33, 165), (34, 165), (35, 165), (36, 165), (37, 165), (38, 165), (39, 165), (40, 165), (41, 165), (42, 121)])),
  (108, (.iload_n 1, 109, 0, [])),
  (109, (.invokestatic 43, 112, 35, [])),
  (112, (.ifCond .ne 7, 115, 119, [])),
  (115, (.iconst 1, 116, 0, [])),
  (116, (.goto 4, 119, 120, [])),
  (119, (.iconst 0, 120, 0, [])),
  (120, (.ireturn, 121, 0, [])),
  (121, (.iload_n 1, 122, 0, [])),
  (122, (.iconst (-1), 123, 0, [])),
  (123, (.if_icmp .eq 14, 126, 137, [])),
  (126, (.iload_n 1, 127, 0, [])),
  (127, (.invokestatic 43, 130, 35, [])),
  (130, (.ifCond .ne 7, 133, 137, [])),
  (133, (.iconst 1, 134, 0, [])),
  (134, (.goto 4, 137, 138, [])),
  (137, (.iconst 0, 138, 0, [])),
  (138, (.ireturn, 139, 0, [])),
  (139, (.iload_n 1, 140, 0, [])),
  (140, (.invokestatic 116, 143, 36, [])),
  (143, (.ifCond .ne 7, 146, 150, [])),
  (146, (.iconst 1, 147, 0, [])),
  (147, (.goto 4, 150, 151, [])),
  (150, (.iconst 0, 151, 0, [])),
  (151, (.ireturn, 152, 0, [])),
  (152, (.iload_n 2, 153, 0, [])),
  (153, (.invokestatic 116, 156, 36, [])),
  (156, (.ifCond .ne 7, 159, 163, [])),
  (159, (.iconst 1, 160, 0, [])),
  (160, (.goto 4, 163, 164, [])),
  (163, (.iconst 0, 164, 0, [])),
  (164, (.ireturn, 165, 0, [])),
  (165, (.iconst 0, 166, 0, [])),
  (166, (.ireturn, 167, 0, []))]
/-- X5_lacksChannel -/
def fj_c57 : List (Nat × fj_I) := [(0, (.iload_n 0, 1, 0, [])),
  (1, (.tableswitch 109 31 44 #[71, 71, 71, 71, 84, 109, 109, 109, 109, 109, 109, 109, 109, 71], 72, 110, [(31, 72), (32, 72), (33, 72), (34, 72), (35, 85), (36, 110), (37, 110), (38, 110), (39, 110), (40, 110), (41, 110), (42, 110), (43, 110), (44, 72)])),
  (72, (.iload_n 1, 73, 0, [])),
  (73, (.invokestatic 51, 76, 38, [])),
  (76, (.ifCond .ne 7, 79, 83, [])),
  (79, (.iconst 1, 80, 0, [])),
  (80, (.goto 4, 83, 84, [])),
  (83, (.iconst 0, 84, 0, [])),
  (84, (.ireturn, 85, 0, [])),
  (85, (.iload_n 1, 86, 0, [])),
  (86, (.bipush 7, 88, 0, [])),
  (88, (.iand, 89, 0, [])),
  (89, (.invokestatic 51, 92, 38, [])),
  (92, (.ifCond .eq 12, 95, 104, [])),
  (95, (.iload_n 1, 96, 0, [])),
  (96, (.iconst 3, 97, 0, [])),
  (97, (.ishr, 98, 0, [])),
  (98, (.invokestatic 51, 101, 38, [])),
  (101, (.ifCond .ne 7, 104, 108, [])),
  (104, (.iconst 1, 105, 0, [])),
  (105, (.goto 4, 108, 109, [])),
  (108, (.iconst 0, 109, 0, [])),
  (109, (.ireturn, 110, 0, [])),
  (110, (.iconst 0, 111, 0, [])),
  (111, (.ireturn, 112, 0, []))]
/-- X5_lacksTask -/
def fj_c58 : List (Nat × fj_I) := [(0, (.iload_n 1, 1, 0, [])),
  (1, (.invokestatic 80, 4, 37, [])),
  (4, (.ifCond .eq 23, 7, 27, [])),
  (7, (.iload_n 1, 8, 0, [])),
  (8, (.aload_n 0, 9, 0, [])),
  (9, (.getfield 125, 12, 8, [])),
  (12, (.if_icmp .eq 15, 15, 27, [])),
  (15, (.aload_n 0, 16, 0, [])),
  (16, (.getfield 21, 19, 3, [])),
  (19, (.iload_n 1, 20, 0, [])),
  (20, (.aaload, 21, 0, [])),
  (21, (.getfield 83, 24, 702, [])),
  (24, (.ifCond .ne 7, 27, 31, [])),
  (27, (.iconst 1, 28, 0, [])),
  (28, (.goto 4, 31, 32, [])),
  (31, (.iconst 0, 32, 0, [])),
  (32, (.ireturn, 33, 0, []))]
/-- X5_isFaulted -/
def fj_c59 : List (Nat × fj_I) := [(0, (.iload_n 1, 1, 0, [])),
  (1, (.invokestatic 80, 4, 37, [])),
  (4, (.ifCond .eq 21, 7, 25, [])),
  (7, (.aload_n 0, 8, 0, [])),
  (8, (.getfield 21, 11, 3, [])),
  (11, (.iload_n 1, 12, 0, [])),
  (12, (.aaload, 13, 0, [])),
  (13, (.getfield 83, 16, 702, [])),
  (16, (.bipush 8, 18, 0, [])),
  (18, (.if_icmp .ne 7, 21, 25, [])),
  (21, (.iconst 1, 22, 0, [])),
  (22, (.goto 4, 25, 26, [])),
  (25, (.iconst 0, 26, 0, [])),
  (26, (.ireturn, 27, 0, []))]
/-- X5_overflows -/
def fj_c60 : List (Nat × fj_I) := [(0, (.iload_n 2, 1, 0, [])),
  (1, (.bipush 22, 3, 0, [])),
  (3, (.if_icmp .ne 18, 6, 21, [])),
  (6, (.aload_n 1, 7, 0, [])),
  (7, (.getfield 93, 10, 705, [])),
  (10, (.bipush 12, 12, 0, [])),
  (12, (.if_icmp .lt 7, 15, 19, [])),
  (15, (.iconst 1, 16, 0, [])),
  (16, (.goto 4, 19, 20, [])),
  (19, (.iconst 0, 20, 0, [])),
  (20, (.ireturn, 21, 0, [])),
  (21, (.aload_n 1, 22, 0, [])),
  (22, (.getfield 90, 25, 704, [])),
  (25, (.iload_n 2, 26, 0, [])),
  (26, (.invokestatic 229, 29, 4, [])),
  (29, (.isub, 30, 0, [])),
  (30, (.aload_n 0, 31, 0, [])),
  (31, (.iload_n 2, 32, 0, [])),
  (32, (.iload_n 3, 33, 0, [])),
  (33, (.invokevirtual 232, 36, 61, [])),
  (36, (.iadd, 37, 0, [])),
  (37, (.bipush 24, 39, 0, [])),
  (39, (.if_icmp .le 7, 42, 46, [])),
  (42, (.iconst 1, 43, 0, [])),
  (43, (.goto 4, 46, 47, [])),
  (46, (.iconst 0, 47, 0, [])),
  (47, (.ireturn, 48, 0, []))]
/-- X5_comingBy -/
def fj_c61 : List (Nat × fj_I) := [(0, (.iload_n 1, 1, 0, [])),
  (1, (.tableswitch 86 32 35 #[31, 86, 45, 59], 32, 87, [(32, 32), (33, 87), (34, 46), (35, 60)])),
  (32, (.aload_n 0, 33, 0, [])),
  (33, (.iload_n 2, 34, 0, [])),
  (34, (.invokevirtual 70, 37, 41, [])),
  (37, (.ifCond .eq 7, 40, 44, [])),
  (40, (.iconst 1, 41, 0, [])),
  (41, (.goto 4, 44, 45, [])),
  (44, (.iconst 0, 45, 0, [])),
  (45, (.ireturn, 46, 0, [])),
  (46, (.aload_n 0, 47, 0, [])),
  (47, (.iload_n 2, 48, 0, [])),
  (48, (.invokevirtual 70, 51, 41, [])),
  (51, (.ifCond .eq 7, 54, 58, [])),
  (54, (.iconst 2, 55, 0, [])),
  (55, (.goto 4, 58, 59, [])),
  (58, (.iconst 1, 59, 0, [])),
  (59, (.ireturn, 60, 0, [])),
  (60, (.aload_n 0, 61, 0, [])),
  (61, (.iload_n 2, 62, 0, [])),
  (62, (.bipush 7, 64, 0, [])),
  (64, (.iand, 65, 0, [])),
  (65, (.invokevirtual 70, 68, 41, [])),
  (68, (.ifCond .ne 13, 71, 81, [])),
  (71, (.aload_n 0, 72, 0, [])),
  (72, (.iload_n 2, 73, 0, [])),
  (73, (.iconst 3, 74, 0, [])),
  (74, (.ishr, 75, 0, [])),
  (75, (.invokevirtual 70, 78, 41, [])),
  (78, (.ifCond .eq 7, 81, 85, [])),
  (81, (.iconst 2, 82, 0, [])),
  (82, (.goto 4, 85, 86, [])),
  (85, (.iconst 0, 86, 0, [])),
  (86, (.ireturn, 87, 0, [])),
  (87, (.iload_n 1, 88, 0, [])),
  (88, (.invokestatic 235, 91, 5, [])),
  (91, (.ireturn, 92, 0, []))]
/-- X5_bringFault -/
def fj_c62 : List (Nat × fj_I) := [(0, (.iconst 0, 1, 0, [])),
  (1, (.istore_n 3, 2, 0, [])),
  (2, (.aload_n 0, 3, 0, [])),
  (3, (.iload_n 1, 4, 0, [])),
  (4, (.invokevirtual 165, 7, 39, [])),
  (7, (.ifCond .eq 27, 10, 34, [])),
  (10, (.aload_n 0, 11, 0, [])),
  (11, (.aload_n 0, 12, 0, [])),
  (12, (.getfield 21, 15, 3, [])),
  (15, (.iload_n 1, 16, 0, [])),
  (16, (.aaload, 17, 0, [])),
  (17, (.iload_n 2, 18, 0, [])),
  (18, (.invokevirtual 238, 21, 63, [])),
  (21, (.ifCond .eq 13, 24, 34, [])),
  (24, (.aload_n 0, 25, 0, [])),
  (25, (.getfield 31, 28, 5, [])),
  (28, (.iload_n 3, 29, 0, [])),
  (29, (.iinc 3 1, 32, 0, [])),
  (32, (.iload_n 1, 33, 0, [])),
  (33, (.iastore, 34, 0, [])),
  (34, (.iconst 0, 35, 0, [])),
  (35, (.istore 4, 37, 0, [])),
  (37, (.iload 4, 39, 0, [])),
  (39, (.iload_n 3, 40, 0, [])),
  (40, (.if_icmp .ge 113, 43, 153, [])),
  (43, (.iload 4, 45, 0, [])),
  (45, (.bipush 12, 47, 0, [])),
  (47, (.if_icmp .ge 106, 50, 153, [])),
  (50, (.iconst 1, 51, 0, [])),
  (51, (.aload_n 0, 52, 0, [])),
  (52, (.getfield 31, 55, 5, [])),
  (55, (.iload 4, 57, 0, [])),
  (57, (.iaload, 58, 0, [])),
  (58, (.ishl, 59, 0, [])),
  (59, (.istore 5, 61, 0, [])),
  (61, (.iconst 0, 62, 0, [])),
  (62, (.istore 6, 64, 0, [])),
  (64, (.iload 6, 66, 0, [])),
  (66, (.bipush 12, 68, 0, [])),
  (68, (.if_icmp .ge 79, 71, 147, [])),
  (71, (.aload_n 0, 72, 0, [])),
  (72, (.iload 6, 74, 0, [])),
  (74, (.invokevirtual 165, 77, 39, [])),
  (77, (.ifCond .eq 23, 80, 100, [])),
  (80, (.aload_n 0, 81, 0, [])),
  (81, (.getfield 21, 84, 3, [])),
  (84, (.iload 6, 86, 0, [])),
  (86, (.aaload, 87, 0, [])),
  (87, (.getfield 99, 90, 707, [])),
  (90, (.iload 5, 92, 0, [])),
  (92, (.iand, 93, 0, [])),
  (93, (.ifCond .eq 7, 96, 100, [])),
  (96, (.iconst 1, 97, 0, [])),
  (97, (.goto 4, 100, 101, [])),
  (100, (.iconst 0, 101, 0, [])),
  (101, (.istore 7, 103, 0, [])),
  (103, (.iload 7, 105, 0, [])),
  (105, (.ifCond .eq 36, 108, 141, [])),
  (108, (.aload_n 0, 109, 0, [])),
  (109, (.aload_n 0, 110, 0, [])),
  (110, (.getfield 21, 113, 3, [])),
  (113, (.iload 6, 115, 0, [])),
  (115, (.aaload, 116, 0, [])),
  (116, (.bipush 8, 118, 0, [])),
  (118, (.invokevirtual 238, 121, 63, [])),
  (121, (.ifCond .eq 20, 124, 141, [])),
  (124, (.iload_n 3, 125, 0, [])),
  (125, (.bipush 12, 127, 0, [])),
  (127, (.if_icmp .ge 14, 130, 141, [])),
  (130, (.aload_n 0, 131, 0, [])),
  (131, (.getfield 31, 134, 5, [])),
  (134, (.iload_n 3, 135, 0, [])),
  (135, (.iinc 3 1, 138, 0, [])),
  (138, (.iload 6, 140, 0, [])),
  (140, (.iastore, 141, 0, [])),
  (141, (.iinc 6 1, 144, 0, [])),
  (144, (.goto (-80), 147, 64, [])),
  (147, (.iinc 4 1, 150, 0, [])),
  (150, (.goto (-113), 153, 37, [])),
  (153, (.return_, 154, 0, []))]
/-- X5_strike -/
def fj_c63 : List (Nat × fj_I) := [(0, (.aload_n 0, 1, 0, [])),
  (1, (.dup, 2, 0, [])),
  (2, (.getfield 141, 5, 13, [])),
  (5, (.iconst 1, 6, 0, [])),
  (6, (.iadd, 7, 0, [])),
  (7, (.putfield 141, 10, 13, [])),
  (10, (.aload_n 1, 11, 0, [])),
  (11, (.getfield 96, 14, 706, [])),
  (14, (.iconst (-1), 15, 0, [])),
  (15, (.if_icmp .eq 20, 18, 35, [])),
  (18, (.iload_n 2, 19, 0, [])),
  (19, (.bipush 9, 21, 0, [])),
  (21, (.if_icmp .eq 14, 24, 35, [])),
  (24, (.aload_n 1, 25, 0, [])),
  (25, (.aload_n 1, 26, 0, [])),
  (26, (.getfield 96, 29, 706, [])),
  (29, (.iload_n 2, 30, 0, [])),
  (30, (.invokevirtual 241, 33, 8, [])),
  (33, (.iconst 0, 34, 0, [])),
  (34, (.ireturn, 35, 0, [])),
  (35, (.aload_n 1, 36, 0, [])),
  (36, (.bipush 8, 38, 0, [])),
  (38, (.iload_n 2, 39, 0, [])),
  (39, (.ineg, 40, 0, [])),
  (40, (.invokevirtual 244, 43, 9, [])),
  (43, (.iconst 1, 44, 0, [])),
  (44, (.ireturn, 45, 0, []))]
/-- X5_perform -/
def fj_c64 : List (Nat × fj_I) := [(0, (.iload_n 2, 1, 0, [])),
  (1, (.bipush 19, 3, 0, [])),
  (3, (.if_icmp .gt 12, 6, 15, [])),
  (6, (.aload_n 1, 7, 0, [])),
  (7, (.iload_n 2, 8, 0, [])),
  (8, (.iload_n 3, 9, 0, [])),
  (9, (.invokestatic 247, 12, 65, [])),
  (12, (.goto 99, 15, 111, [])),
  (15, (.iload_n 2, 16, 0, [])),
  (16, (.bipush 23, 18, 0, [])),
  (18, (.if_icmp .gt 12, 21, 30, [])),
  (21, (.aload_n 1, 22, 0, [])),
  (22, (.iload_n 2, 23, 0, [])),
  (23, (.iload_n 3, 24, 0, [])),
  (24, (.invokestatic 250, 27, 68, [])),
  (27, (.goto 84, 30, 111, [])),
  (30, (.iload_n 2, 31, 0, [])),
  (31, (.bipush 27, 33, 0, [])),
  (33, (.if_icmp .gt 13, 36, 46, [])),
  (36, (.aload_n 0, 37, 0, [])),
  (37, (.aload_n 1, 38, 0, [])),
  (38, (.iload_n 2, 39, 0, [])),
  (39, (.iload_n 3, 40, 0, [])),
  (40, (.invokevirtual 253, 43, 69, [])),
  (43, (.goto 68, 46, 111, [])),
  (46, (.iload_n 2, 47, 0, [])),
  (47, (.invokestatic 256, 50, 3, [])),
  (50, (.ifCond .eq 13, 53, 63, [])),
  (53, (.aload_n 0, 54, 0, [])),
  (54, (.aload_n 1, 55, 0, [])),
  (55, (.iload_n 2, 56, 0, [])),
  (56, (.iload_n 3, 57, 0, [])),
  (57, (.invokevirtual 259, 60, 70, [])),
  (60, (.goto 51, 63, 111, [])),
  (63, (.iload_n 2, 64, 0, [])),
  (64, (.bipush 28, 66, 0, [])),
  (66, (.if_icmp .ne 19, 69, 85, [])),
  (69, (.aload_n 1, 70, 0, [])),
  (70, (.aload_n 0, 71, 0, [])),
  (71, (.iload_n 3, 72, 0, [])),
  (72, (.aload_n 1, 73, 0, [])),
  (73, (.invokevirtual 262, 76, 12, [])),
  (76, (.invokevirtual 47, 79, 44, [])),
  (79, (.invokevirtual 265, 82, 11, [])),
  (82, (.goto 29, 85, 111, [])),
  (85, (.iload_n 2, 86, 0, [])),
  (86, (.bipush 40, 88, 0, [])),
  (88, (.if_icmp .ne 16, 91, 104, [])),
  (91, (.aload_n 0, 92, 0, [])),
  (92, (.aload_n 1, 93, 0, [])),
  (93, (.invokevirtual 262, 96, 12, [])),
  (96, (.bipush 9, 98, 0, [])),
  (98, (.invokevirtual 181, 101, 62, [])),
  (101, (.goto 10, 104, 111, [])),
  (104, (.aload_n 0, 105, 0, [])),
  (105, (.aload_n 1, 106, 0, [])),
  (106, (.iload_n 2, 107, 0, [])),
  (107, (.iload_n 3, 108, 0, [])),
  (108, (.invokevirtual 268, 111, 74, [])),
  (111, (.return_, 112, 0, []))]
/-- X5_calculate -/
def fj_c65 : List (Nat × fj_I) := [(0, (.iload_n 1, 1, 0, [])),
  (1, (.tableswitch 176 0 19 #[95, 98, 106, 114, 138, 126, 176, 176, 176, 176, 176, 145, 176, 176, 176, 176, 176, 176, 176, 157], 96, 177, [(0, 96), (1, 99), (2, 107), (3, 115), (4, 139), (5, 127), (6, 177), (7, 177), (8, 177), (9, 177), (10, 177), (11, 146), (12, 177), (13, 177), (14, 177), (15, 177), (16, 177), (17, 177), (18, 177), (19, 158)])),
  (96, (.goto 103, 99, 199, [])),
  (99, (.aload_n 0, 100, 0, [])),
  (100, (.iload_n 2, 101, 0, [])),
  (101, (.invokevirtual 265, 104, 11, [])),
  (104, (.goto 95, 107, 199, [])),
  (107, (.aload_n 0, 108, 0, [])),
  (108, (.invokevirtual 262, 111, 12, [])),
  (111, (.pop, 112, 0, [])),
  (112, (.goto 87, 115, 199, [])),
  (115, (.aload_n 0, 116, 0, [])),
  (116, (.aload_n 0, 117, 0, [])),
  (117, (.iconst 0, 118, 0, [])),
  (118, (.invokevirtual 200, 121, 13, [])),
  (121, (.invokevirtual 265, 124, 11, [])),
  (124, (.goto 75, 127, 199, [])),
  (127, (.aload_n 0, 128, 0, [])),
  (128, (.aload_n 0, 129, 0, [])),
  (129, (.iconst 1, 130, 0, [])),
  (130, (.invokevirtual 200, 133, 13, [])),
  (133, (.invokevirtual 265, 136, 11, [])),
  (136, (.goto 63, 139, 199, [])),
  (139, (.aload_n 0, 140, 0, [])),
  (140, (.invokestatic 271, 143, 66, [])),
  (143, (.goto 56, 146, 199, [])),
  (146, (.aload_n 0, 147, 0, [])),
  (147, (.aload_n 0, 148, 0, [])),
  (148, (.invokevirtual 262, 151, 12, [])),
  (151, (.ineg, 152, 0, [])),
  (152, (.invokevirtual 265, 155, 11, [])),
  (155, (.goto 44, 158, 199, [])),
  (158, (.aload_n 0, 159, 0, [])),
  (159, (.aload_n 0, 160, 0, [])),
  (160, (.invokevirtual 262, 163, 12, [])),
  (163, (.ifCond .ne 7, 166, 170, [])),
  (166, (.iconst 1, 167, 0, [])),
  (167, (.goto 4, 170, 171, [])),
  (170, (.iconst 0, 171, 0, [])),
  (171, (.invokevirtual 265, 174, 11, [])),
  (174, (.goto 25, 177, 199, [])),
  (177, (.aload_n 0, 178, 0, [])),
  (178, (.invokevirtual 262, 181, 12, [])),
  (181, (.istore_n 3, 182, 0, [])),
  (182, (.aload_n 0, 183, 0, [])),
  (183, (.invokevirtual 262, 186, 12, [])),
  (186, (.istore 4, 188, 0, [])),
  (188, (.aload_n 0, 189, 0, [])),
  (189, (.iload_n 1, 190, 0, [])),
  (190, (.iload 4, 192, 0, [])),
  (192, (.iload_n 3, 193, 0, [])),
  (193, (.invokestatic 275, 196, 67, [])),
  (196, (.invokevirtual 265, 199, 11, [])),
  (199, (.return_, 200, 0, []))]
/-- X5_swap -/
def fj_c66 : List (Nat × fj_I) := [(0, (.aload_n 0, 1, 0, [])),
  (1, (.invokevirtual 262, 4, 12, [])),
  (4, (.istore_n 1, 5, 0, [])),
  (5, (.aload_n 0, 6, 0, [])),
  (6, (.invokevirtual 262, 9, 12, [])),
  (9, (.istore_n 2, 10, 0, [])),
  (10, (.aload_n 0, 11, 0, [])),
  (11, (.iload_n 1, 12, 0, [])),
  (12, (.invokevirtual 265, 15, 11, [])),
  (15, (.aload_n 0, 16, 0, [])),
  (16, (.iload_n 2, 17, 0, [])),
  (17, (.invokevirtual 265, 20, 11, [])),
  (20, (.return_, 21, 0, []))]
/-- X5_combine -/
def fj_c67 : List (Nat × fj_I) := [(0, (.iload_n 0, 1, 0, [])),
  (1, (.tableswitch 151 6 18 #[67, 71, 75, 79, 91, 151, 103, 107, 111, 115, 122, 129, 140], 68, 152, [(6, 68), (7, 72), (8, 76), (9, 80), (10, 92), (11, 152), (12, 104), (13, 108), (14, 112), (15, 116), (16, 123), (17, 130), (18, 141)])),
  (68, (.iload_n 1, 69, 0, [])),
  (69, (.iload_n 2, 70, 0, [])),
  (70, (.iadd, 71, 0, [])),
  (71, (.ireturn, 72, 0, [])),
  (72, (.iload_n 1, 73, 0, [])),
  (73, (.iload_n 2, 74, 0, [])),
  (74, (.isub, 75, 0, [])),
  (75, (.ireturn, 76, 0, [])),
  (76, (.iload_n 1, 77, 0, [])),
  (77, (.iload_n 2, 78, 0, [])),
  (78, (.imul, 79, 0, [])),
  (79, (.ireturn, 80, 0, [])),
  (80, (.iload_n 2, 81, 0, [])),
  (81, (.ifCond .ne 7, 84, 88, [])),
  (84, (.iconst 0, 85, 0, [])),
  (85, (.goto 6, 88, 91, [])),
  (88, (.iload_n 1, 89, 0, [])),
  (89, (.iload_n 2, 90, 0, [])),
  (90, (.idiv, 91, 0, [])),
  (91, (.ireturn, 92, 0, [])),
  (92, (.iload_n 2, 93, 0, [])),
  (93, (.ifCond .ne 7, 96, 100, [])),
  (96, (.iconst 0, 97, 0, [])),
  (97, (.goto 6, 100, 103, [])),
  (100, (.iload_n 1, 101, 0, [])),
  (101, (.iload_n 2, 102, 0, [])),
  (102, (.irem, 103, 0, [])),
  (103, (.ireturn, 104, 0, [])),
  (104, (.iload_n 1, 105, 0, [])),
  (105, (.iload_n 2, 106, 0, [])),
  (106, (.iand, 107, 0, [])),
  (107, (.ireturn, 108, 0, [])),
  (108, (.iload_n 1, 109, 0, [])),
  (109, (.iload_n 2, 110, 0, [])),
  (110, (.ior, 111, 0, [])),
  (111, (.ireturn, 112, 0, [])),
  (112, (.iload_n 1, 113, 0, [])),
  (113, (.iload_n 2, 114, 0, [])),
  (114, (.ixor, 115, 0, [])),
  (115, (.ireturn, 116, 0, [])),
  (116, (.iload_n 1, 117, 0, [])),
  (117, (.iload_n 2, 118, 0, [])),
  (118, (.bipush 31, 120, 0, [])),
  (120, (.iand, 121, 0, [])),
  (121, (.ishl, 122, 0, [])),
  (122, (.ireturn, 123, 0, [])),
  (123, (.iload_n 1, 124, 0, [])),
  (124, (.iload_n 2, 125, 0, [])),
  (125, (.bipush 31, 127, 0, [])),
  (127, (.iand, 128, 0, [])),
  (128, (.ishr, 129, 0, [])),
  (129, (.ireturn, 130, 0, [])),
  (130, (.iload_n 1, 131, 0, [])),
  (131, (.iload_n 2, 132, 0, [])),
  (132, (.if_icmp .ge 7, 135, 139, [])),
  (135, (.iconst 1, 136, 0, [])),
  (136, (.goto 4, 139, 140, [])),
  (139, (.iconst 0, 140, 0, [])),
  (140, (.ireturn, 141, 0, [])),
  (141, (.iload_n 1, 142, 0, [])),
  (142, (.iload_n 2, 143, 0, [])),
  (143, (.if_icmp .ne 7, 146, 150, [])),
  (146, (.iconst 1, 147, 0, [])),
  (147, (.goto 4, 150, 151, [])),
  (150, (.iconst 0, 151, 0, [])),
  (151, (.ireturn, 152, 0, [])),
  (152, (.iconst 0, 153, 0, [])),
  (153, (.ireturn, 154, 0, []))]
/-- X5_go -/
def fj_c68 : List (Nat × fj_I) := [(0, (.iload_n 1, 1, 0, [])),
  (1, (.tableswitch 88 20 23 #[31, 39, 61, 77], 32, 89, [(20, 32), (21, 40), (22, 62), (23, 78)])),
  (32, (.aload_n 0, 33, 0, [])),
  (33, (.iload_n 2, 34, 0, [])),
  (34, (.putfield 87, 37, 703, [])),
  (37, (.goto 52, 40, 89, [])),
  (40, (.aload_n 0, 41, 0, [])),
  (41, (.aload_n 0, 42, 0, [])),
  (42, (.invokevirtual 262, 45, 12, [])),
  (45, (.ifCond .ne 7, 48, 52, [])),
  (48, (.iload_n 2, 49, 0, [])),
  (49, (.goto 7, 52, 56, [])),
  (52, (.aload_n 0, 53, 0, [])),
  (53, (.getfield 87, 56, 703, [])),
  (56, (.putfield 87, 59, 703, [])),
  (59, (.goto 30, 62, 89, [])),
  (62, (.aload_n 0, 63, 0, [])),
  (63, (.aload_n 0, 64, 0, [])),
  (64, (.getfield 87, 67, 703, [])),
  (67, (.invokevirtual 279, 70, 14, [])),
  (70, (.aload_n 0, 71, 0, [])),
  (71, (.iload_n 2, 72, 0, [])),
  (72, (.putfield 87, 75, 703, [])),
  (75, (.goto 14, 78, 89, [])),
  (78, (.aload_n 0, 79, 0, [])),
  (79, (.aload_n 0, 80, 0, [])),
  (80, (.invokevirtual 282, 83, 15, [])),
  (83, (.putfield 87, 86, 703, [])),
  (86, (.goto 3, 89, 89, [])),
  (89, (.return_, 90, 0, []))]
/-- X5_useMemory -/
def fj_c69 : List (Nat × fj_I) := [(0, (.iload_n 2, 1, 0, [])),
  (1, (.bipush 24, 3, 0, [])),
  (3, (.if_icmp .eq 9, 6, 12, [])),
  (6, (.iload_n 2, 7, 0, [])),
  (7, (.bipush 25, 9, 0, [])),
  (9, (.if_icmp .ne 7, 12, 16, [])),
  (12, (.iconst 1, 13, 0, [])),
  (13, (.goto 4, 16, 17, [])),
  (16, (.iconst 0, 17, 0, [])),
  (17, (.istore 4, 19, 0, [])),
  (19, (.iload 4, 21, 0, [])),
  (21, (.ifCond .eq 7, 24, 28, [])),
  (24, (.iload_n 3, 25, 0, [])),
  (25, (.goto 7, 28, 32, [])),
  (28, (.aload_n 1, 29, 0, [])),
  (29, (.invokevirtual 262, 32, 12, [])),
  (32, (.istore 5, 34, 0, [])),
  (34, (.iload 5, 36, 0, [])),
  (36, (.invokestatic 116, 39, 36, [])),
  (39, (.ifCond .ne 4, 42, 43, [])),
  (42, (.return_, 43, 0, [])),
  (43, (.iload_n 2, 44, 0, [])),
  (44, (.bipush 24, 46, 0, [])),
  (46, (.if_icmp .eq 9, 49, 55, [])),
  (49, (.iload_n 2, 50, 0, [])),
  (50, (.bipush 26, 52, 0, [])),
  (52, (.if_icmp .ne 17, 55, 69, [])),
  (55, (.aload_n 1, 56, 0, [])),
  (56, (.aload_n 0, 57, 0, [])),
  (57, (.getfield 13, 60, 1, [])),
  (60, (.iload 5, 62, 0, [])),
  (62, (.iaload, 63, 0, [])),
  (63, (.invokevirtual 265, 66, 11, [])),
  (66, (.goto 14, 69, 80, [])),
  (69, (.aload_n 0, 70, 0, [])),
  (70, (.getfield 13, 73, 1, [])),
  (73, (.iload 5, 75, 0, [])),
  (75, (.aload_n 1, 76, 0, [])),
  (76, (.invokevirtual 262, 79, 12, [])),
  (79, (.iastore, 80, 0, [])),
  (80, (.return_, 81, 0, []))]
/-- X5_useChannel -/
def fj_c70 : List (Nat × fj_I) := [(0, (.iload_n 2, 1, 0, [])),
  (1, (.bipush 35, 3, 0, [])),
  (3, (.if_icmp .ne 16, 6, 19, [])),
  (6, (.aload_n 0, 7, 0, [])),
  (7, (.aload_n 1, 8, 0, [])),
  (8, (.iload_n 3, 9, 0, [])),
  (9, (.bipush 7, 11, 0, [])),
  (11, (.iand, 12, 0, [])),
  (12, (.iload_n 3, 13, 0, [])),
  (13, (.iconst 3, 14, 0, [])),
  (14, (.ishr, 15, 0, [])),
  (15, (.invokevirtual 285, 18, 73, [])),
  (18, (.return_, 19, 0, [])),
  (19, (.iload_n 3, 20, 0, [])),
  (20, (.invokestatic 51, 23, 38, [])),
  (23, (.ifCond .ne 4, 26, 27, [])),
  (26, (.return_, 27, 0, [])),
  (27, (.iload_n 2, 28, 0, [])),
  (28, (.tableswitch 138 31 44 #[72, 88, 104, 113, 138, 138, 138, 138, 138, 138, 138, 138, 138, 122], 100, 166, [(31, 100), (32, 116), (33, 132), (34, 141), (35, 166), (36, 166), (37, 166), (38, 166), (39, 166), (40, 166), (41, 166), (42, 166), (43, 166), (44, 150)])),
  (100, (.aload_n 0, 101, 0, [])),
  (101, (.getfield 27, 104, 4, [])),
  (104, (.iload_n 3, 105, 0, [])),
  (105, (.aaload, 106, 0, [])),
  (106, (.aload_n 1, 107, 0, [])),
  (107, (.invokevirtual 262, 110, 12, [])),
  (110, (.invokevirtual 66, 113, 0, [])),
  (113, (.goto 53, 116, 166, [])),
  (116, (.aload_n 1, 117, 0, [])),
  (117, (.aload_n 0, 118, 0, [])),
  (118, (.getfield 27, 121, 4, [])),
  (121, (.iload_n 3, 122, 0, [])),
  (122, (.aaload, 123, 0, [])),
  (123, (.invokevirtual 73, 126, 1, [])),
  (126, (.invokevirtual 265, 129, 11, [])),
  (129, (.goto 37, 132, 166, [])),
  (132, (.aload_n 0, 133, 0, [])),
  (133, (.aload_n 1, 134, 0, [])),
  (134, (.iload_n 3, 135, 0, [])),
  (135, (.invokevirtual 288, 138, 71, [])),
  (138, (.goto 28, 141, 166, [])),
  (141, (.aload_n 0, 142, 0, [])),
  (142, (.aload_n 1, 143, 0, [])),
  (143, (.iload_n 3, 144, 0, [])),
  (144, (.invokevirtual 292, 147, 72, [])),
  (147, (.goto 19, 150, 166, [])),
  (150, (.aload_n 1, 151, 0, [])),
  (151, (.aload_n 0, 152, 0, [])),
  (152, (.getfield 27, 155, 4, [])),
  (155, (.iload_n 3, 156, 0, [])),
  (156, (.aaload, 157, 0, [])),
  (157, (.getfield 54, 160, 1001, [])),
  (160, (.invokevirtual 265, 163, 11, [])),
  (163, (.goto 3, 166, 166, [])),
  (166, (.return_, 167, 0, []))]
/-- X5_trySend -/
def fj_c71 : List (Nat × fj_I) := [(0, (.aload_n 1, 1, 0, [])),
  (1, (.invokevirtual 262, 4, 12, [])),
  (4, (.istore_n 3, 5, 0, [])),
  (5, (.aload_n 0, 6, 0, [])),
  (6, (.iload_n 2, 7, 0, [])),
  (7, (.invokevirtual 63, 10, 40, [])),
  (10, (.istore 4, 12, 0, [])),
  (12, (.iload 4, 14, 0, [])),
  (14, (.ifCond .eq 13, 17, 27, [])),
  (17, (.aload_n 0, 18, 0, [])),
  (18, (.getfield 27, 21, 4, [])),
  (21, (.iload_n 2, 22, 0, [])),
  (22, (.aaload, 23, 0, [])),
  (23, (.iload_n 3, 24, 0, [])),
  (24, (.invokevirtual 66, 27, 0, [])),
  (27, (.aload_n 1, 28, 0, [])),
  (28, (.iload 4, 30, 0, [])),
  (30, (.ifCond .eq 7, 33, 37, [])),
  (33, (.iconst 1, 34, 0, [])),
  (34, (.goto 4, 37, 38, [])),
  (37, (.iconst 0, 38, 0, [])),
  (38, (.invokevirtual 265, 41, 11, [])),
  (41, (.return_, 42, 0, []))]
/-- X5_tryReceive -/
def fj_c72 : List (Nat × fj_I) := [(0, (.aload_n 0, 1, 0, [])),
  (1, (.iload_n 2, 2, 0, [])),
  (2, (.invokevirtual 70, 5, 41, [])),
  (5, (.istore_n 3, 6, 0, [])),
  (6, (.iload_n 3, 7, 0, [])),
  (7, (.ifCond .eq 16, 10, 23, [])),
  (10, (.aload_n 1, 11, 0, [])),
  (11, (.aload_n 0, 12, 0, [])),
  (12, (.getfield 27, 15, 4, [])),
  (15, (.iload_n 2, 16, 0, [])),
  (16, (.aaload, 17, 0, [])),
  (17, (.invokevirtual 73, 20, 1, [])),
  (20, (.invokevirtual 265, 23, 11, [])),
  (23, (.aload_n 1, 24, 0, [])),
  (24, (.iload_n 3, 25, 0, [])),
  (25, (.ifCond .eq 7, 28, 32, [])),
  (28, (.iconst 1, 29, 0, [])),
  (29, (.goto 4, 32, 33, [])),
  (32, (.iconst 0, 33, 0, [])),
  (33, (.invokevirtual 265, 36, 11, [])),
  (36, (.return_, 37, 0, []))]
/-- X5_choose -/
def fj_c73 : List (Nat × fj_I) := [(0, (.aload_n 0, 1, 0, [])),
  (1, (.iload_n 2, 2, 0, [])),
  (2, (.invokevirtual 70, 5, 41, [])),
  (5, (.ifCond .eq 7, 8, 12, [])),
  (8, (.iconst 0, 9, 0, [])),
  (9, (.goto 4, 12, 13, [])),
  (12, (.iconst 1, 13, 0, [])),
  (13, (.istore 4, 15, 0, [])),
  (15, (.iload 4, 17, 0, [])),
  (17, (.ifCond .ne 7, 20, 24, [])),
  (20, (.iload_n 2, 21, 0, [])),
  (21, (.goto 4, 24, 25, [])),
  (24, (.iload_n 3, 25, 0, [])),
  (25, (.istore 5, 27, 0, [])),
  (27, (.iload 5, 29, 0, [])),
  (29, (.invokestatic 51, 32, 38, [])),
  (32, (.ifCond .eq 23, 35, 55, [])),
  (35, (.aload_n 1, 36, 0, [])),
  (36, (.aload_n 0, 37, 0, [])),
  (37, (.getfield 27, 40, 4, [])),
  (40, (.iload 5, 42, 0, [])),
  (42, (.aaload, 43, 0, [])),
  (43, (.invokevirtual 73, 46, 1, [])),
  (46, (.invokevirtual 265, 49, 11, [])),
  (49, (.aload_n 1, 50, 0, [])),
  (50, (.iload 4, 52, 0, [])),
  (52, (.invokevirtual 265, 55, 11, [])),
  (55, (.return_, 56, 0, []))]
/-- X5_useItself -/
def fj_c74 : List (Nat × fj_I) := [(0, (.iload_n 2, 1, 0, [])),
  (1, (.tableswitch 205 29 45 #[83, 91, 205, 205, 205, 205, 205, 104, 116, 127, 138, 205, 149, 182, 164, 205, 190], 84, 206, [(29, 84), (30, 92), (31, 206), (32, 206), (33, 206), (34, 206), (35, 206), (36, 105), (37, 117), (38, 128), (39, 139), (40, 206), (41, 150), (42, 183), (43, 165), (44, 206), (45, 191)])),
  (84, (.aload_n 0, 85, 0, [])),
  (85, (.iconst 0, 86, 0, [])),
  (86, (.putfield 128, 89, 9, [])),
  (89, (.goto 117, 92, 206, [])),
  (92, (.aload_n 1, 93, 0, [])),
  (93, (.bipush 7, 95, 0, [])),
  (95, (.aload_n 1, 96, 0, [])),
  (96, (.invokevirtual 262, 99, 12, [])),
  (99, (.invokevirtual 244, 102, 9, [])),
  (102, (.goto 104, 105, 206, [])),
  (105, (.aload_n 0, 106, 0, [])),
  (106, (.aload_n 1, 107, 0, [])),
  (107, (.aload_n 1, 108, 0, [])),
  (108, (.invokevirtual 262, 111, 12, [])),
  (111, (.invokevirtual 295, 114, 76, [])),
  (114, (.goto 92, 117, 206, [])),
  (117, (.aload_n 1, 118, 0, [])),
  (118, (.aload_n 0, 119, 0, [])),
  (119, (.getfield 125, 122, 8, [])),
  (122, (.invokevirtual 265, 125, 11, [])),
  (125, (.goto 81, 128, 206, [])),
  (128, (.aload_n 1, 129, 0, [])),
  (129, (.aload_n 0, 130, 0, [])),
  (130, (.getfield 122, 133, 10, [])),
  (133, (.invokevirtual 265, 136, 11, [])),
  (136, (.goto 70, 139, 206, [])),
  (139, (.aload_n 0, 140, 0, [])),
  (140, (.aload_n 1, 141, 0, [])),
  (141, (.invokevirtual 262, 144, 12, [])),
  (144, (.invokevirtual 298, 147, 77, [])),
  (147, (.goto 59, 150, 206, [])),
  (150, (.aload_n 1, 151, 0, [])),
  (151, (.aload_n 0, 152, 0, [])),
  (152, (.aload_n 1, 153, 0, [])),
  (153, (.invokevirtual 262, 156, 12, [])),
  (156, (.invokevirtual 301, 159, 75, [])),
  (159, (.invokevirtual 265, 162, 11, [])),
  (162, (.goto 44, 165, 206, [])),
  (165, (.aload_n 1, 166, 0, [])),
  (166, (.dup, 167, 0, [])),
  (167, (.getfield 99, 170, 707, [])),
  (170, (.iconst 1, 171, 0, [])),
  (171, (.aload_n 1, 172, 0, [])),
  (172, (.invokevirtual 262, 175, 12, [])),
  (175, (.ishl, 176, 0, [])),
  (176, (.ior, 177, 0, [])),
  (177, (.putfield 99, 180, 707, [])),
  (180, (.goto 26, 183, 206, [])),
  (183, (.aload_n 1, 184, 0, [])),
  (184, (.iload_n 3, 185, 0, [])),
  (185, (.putfield 96, 188, 706, [])),
  (188, (.goto 18, 191, 206, [])),
  (191, (.aload_n 1, 192, 0, [])),
  (192, (.aload_n 1, 193, 0, [])),
  (193, (.aload_n 1, 194, 0, [])),
  (194, (.invokevirtual 262, 197, 12, [])),
  (197, (.invokevirtual 200, 200, 13, [])),
  (200, (.invokevirtual 265, 203, 11, [])),
  (203, (.goto 3, 206, 206, [])),
  (206, (.return_, 207, 0, []))]
/-- X5_outcomeOf -/
def fj_c75 : List (Nat × fj_I) := [(0, (.iload_n 1, 1, 0, [])),
  (1, (.invokestatic 80, 4, 37, [])),
  (4, (.ifCond .eq 15, 7, 19, [])),
  (7, (.aload_n 0, 8, 0, [])),
  (8, (.getfield 21, 11, 3, [])),
  (11, (.iload_n 1, 12, 0, [])),
  (12, (.aaload, 13, 0, [])),
  (13, (.getfield 107, 16, 709, [])),
  (16, (.goto 4, 19, 20, [])),
  (19, (.iconst 0, 20, 0, [])),
  (20, (.ireturn, 21, 0, []))]
/-- X5_sleep -/
def fj_c76 : List (Nat × fj_I) := [(0, (.iload_n 2, 1, 0, [])),
  (1, (.iconst 1, 2, 0, [])),
  (2, (.if_icmp .lt 26, 5, 28, [])),
  (5, (.aload_n 1, 6, 0, [])),
  (6, (.aload_n 0, 7, 0, [])),
  (7, (.getfield 122, 10, 10, [])),
  (10, (.iconst 1, 11, 0, [])),
  (11, (.iadd, 12, 0, [])),
  (12, (.iload_n 2, 13, 0, [])),
  (13, (.ldc_w 304, 16, 0, [(1000000, 0)])),
  (16, (.invokestatic 305, 19, 999, [])),
  (19, (.iadd, 20, 0, [])),
  (20, (.putfield 104, 23, 708, [])),
  (23, (.aload_n 1, 24, 0, [])),
  (24, (.iconst 5, 25, 0, [])),
  (25, (.putfield 83, 28, 702, [])),
  (28, (.return_, 29, 0, []))]
/-- X5_print -/
def fj_c77 : List (Nat × fj_I) := [(0, (.aload_n 0, 1, 0, [])),
  (1, (.getfield 119, 4, 11, [])),
  (4, (.sipush 300, 7, 0, [])),
  (7, (.if_icmp .ge 13, 10, 20, [])),
  (10, (.aload_n 0, 11, 0, [])),
  (11, (.getfield 16, 14, 2, [])),
  (14, (.aload_n 0, 15, 0, [])),
  (15, (.getfield 119, 18, 11, [])),
  (18, (.iload_n 1, 19, 0, [])),
  (19, (.iastore, 20, 0, [])),
  (20, (.aload_n 0, 21, 0, [])),
  (21, (.dup, 22, 0, [])),
  (22, (.getfield 119, 25, 11, [])),
  (25, (.iconst 1, 26, 0, [])),
  (26, (.iadd, 27, 0, [])),
  (27, (.putfield 119, 30, 11, [])),
  (30, (.return_, 31, 0, []))]
/-- X6_in -/
def fj_c78 : List (Nat × fj_I) := [(0, (.iload_n 0, 1, 0, [])),
  (1, (.iload_n 1, 2, 0, [])),
  (2, (.if_icmp .lt 12, 5, 14, [])),
  (5, (.iload_n 0, 6, 0, [])),
  (6, (.iload_n 2, 7, 0, [])),
  (7, (.if_icmp .gt 7, 10, 14, [])),
  (10, (.iconst 1, 11, 0, [])),
  (11, (.goto 4, 14, 15, [])),
  (14, (.iconst 0, 15, 0, [])),
  (15, (.ireturn, 16, 0, []))]
/-- X6_poke -/
def fj_c79 : List (Nat × fj_I) := [(0, (.iload_n 1, 1, 0, [])),
  (1, (.iconst 0, 2, 0, [])),
  (2, (.sipush 511, 5, 0, [])),
  (5, (.invokestatic 74, 8, 78, [])),
  (8, (.ifCond .ne 5, 11, 13, [])),
  (11, (.iconst 0, 12, 0, [])),
  (12, (.ireturn, 13, 0, [])),
  (13, (.aload_n 0, 14, 0, [])),
  (14, (.getfield 7, 17, 2000, [])),
  (17, (.iload_n 1, 18, 0, [])),
  (18, (.iaload, 19, 0, [])),
  (19, (.istore_n 3, 20, 0, [])),
  (20, (.aload_n 0, 21, 0, [])),
  (21, (.getfield 7, 24, 2000, [])),
  (24, (.iload_n 1, 25, 0, [])),
  (25, (.iload_n 2, 26, 0, [])),
  (26, (.iastore, 27, 0, [])),
  (27, (.iload_n 3, 28, 0, [])),
  (28, (.ireturn, 29, 0, []))]
/-- X6_code -/
def fj_c80 : List (Nat × fj_I) := [(0, (.iload_n 1, 1, 0, [])),
  (1, (.iconst 0, 2, 0, [])),
  (2, (.sipush 511, 5, 0, [])),
  (5, (.invokestatic 74, 8, 78, [])),
  (8, (.ifCond .eq 12, 11, 20, [])),
  (11, (.aload_n 0, 12, 0, [])),
  (12, (.getfield 7, 15, 2000, [])),
  (15, (.iload_n 1, 16, 0, [])),
  (16, (.iaload, 17, 0, [])),
  (17, (.goto 4, 20, 21, [])),
  (20, (.iconst 0, 21, 0, [])),
  (21, (.ireturn, 22, 0, []))]
/-- X6_word -/
def fj_c81 : List (Nat × fj_I) := [(0, (.iload_n 1, 1, 0, [])),
  (1, (.iconst 0, 2, 0, [])),
  (2, (.sipush 255, 5, 0, [])),
  (5, (.invokestatic 74, 8, 78, [])),
  (8, (.ifCond .eq 12, 11, 20, [])),
  (11, (.iload_n 2, 12, 0, [])),
  (12, (.bipush 8, 14, 0, [])),
  (14, (.ishl, 15, 0, [])),
  (15, (.iload_n 1, 16, 0, [])),
  (16, (.ior, 17, 0, [])),
  (17, (.goto 4, 20, 21, [])),
  (20, (.iconst 0, 21, 0, [])),
  (21, (.ireturn, 22, 0, []))]
/-- X6_isLive -/
def fj_c82 : List (Nat × fj_I) := [(0, (.aload_n 0, 1, 0, [])),
  (1, (.getfield 16, 4, 2002, [])),
  (4, (.iload_n 1, 5, 0, [])),
  (5, (.iaload, 6, 0, [])),
  (6, (.iconst 1, 7, 0, [])),
  (7, (.bipush 6, 9, 0, [])),
  (9, (.invokestatic 74, 12, 78, [])),
  (12, (.ireturn, 13, 0, []))]
/-- X6_unused -/
def fj_c83 : List (Nat × fj_I) := [(0, (.iconst (-1), 1, 0, [])),
  (1, (.istore_n 1, 2, 0, [])),
  (2, (.bipush 11, 4, 0, [])),
  (4, (.istore_n 2, 5, 0, [])),
  (5, (.iload_n 2, 6, 0, [])),
  (6, (.ifCond .lt 23, 9, 29, [])),
  (9, (.aload_n 0, 10, 0, [])),
  (10, (.iload_n 2, 11, 0, [])),
  (11, (.invokevirtual 78, 14, 82, [])),
  (14, (.ifCond .eq 7, 17, 21, [])),
  (17, (.iload_n 1, 18, 0, [])),
  (18, (.goto 4, 21, 22, [])),
  (21, (.iload_n 2, 22, 0, [])),
  (22, (.istore_n 1, 23, 0, [])),
  (23, (.iinc 2 (-1), 26, 0, [])),
  (26, (.goto (-21), 29, 5, [])),
  (29, (.iload_n 1, 30, 0, [])),
  (30, (.ireturn, 31, 0, []))]
/-- X6_begin -/
def fj_c84 : List (Nat × fj_I) := [(0, (.aload_n 0, 1, 0, [])),
  (1, (.getfield 16, 4, 2002, [])),
  (4, (.iload_n 1, 5, 0, [])),
  (5, (.iconst 1, 6, 0, [])),
  (6, (.iastore, 7, 0, [])),
  (7, (.aload_n 0, 8, 0, [])),
  (8, (.getfield 19, 11, 2003, [])),
  (11, (.iload_n 1, 12, 0, [])),
  (12, (.iload_n 2, 13, 0, [])),
  (13, (.iastore, 14, 0, [])),
  (14, (.aload_n 0, 15, 0, [])),
  (15, (.getfield 22, 18, 2004, [])),
  (18, (.iload_n 1, 19, 0, [])),
  (19, (.iconst 1, 20, 0, [])),
  (20, (.iastore, 21, 0, [])),
  (21, (.aload_n 0, 22, 0, [])),
  (22, (.getfield 25, 25, 2005, [])),
  (25, (.bipush 24, 27, 0, [])),
  (27, (.iload_n 1, 28, 0, [])),
  (28, (.imul, 29, 0, [])),
  (29, (.iload_n 3, 30, 0, [])),
  (30, (.iastore, 31, 0, [])),
  (31, (.aload_n 0, 32, 0, [])),
  (32, (.getfield 28, 35, 2006, [])),
  (35, (.iload_n 1, 36, 0, [])),
  (36, (.iconst 0, 37, 0, [])),
  (37, (.iastore, 38, 0, [])),
  (38, (.aload_n 0, 39, 0, [])),
  (39, (.getfield 34, 42, 2008, [])),
  (42, (.iload_n 1, 43, 0, [])),
  (43, (.iconst (-1), 44, 0, [])),
  (44, (.iastore, 45, 0, [])),
  (45, (.aload_n 0, 46, 0, [])),
  (46, (.getfield 37, 49, 2009, [])),
  (49, (.iload_n 1, 50, 0, [])),
  (50, (.iconst 0, 51, 0, [])),
  (51, (.iastore, 52, 0, [])),
  (52, (.aload_n 0, 53, 0, [])),
  (53, (.getfield 40, 56, 2010, [])),
  (56, (.iload_n 1, 57, 0, [])),
  (57, (.iconst 0, 58, 0, [])),
  (58, (.iastore, 59, 0, [])),
  (59, (.aload_n 0, 60, 0, [])),
  (60, (.getfield 43, 63, 2011, [])),
  (63, (.iload_n 1, 64, 0, [])),
  (64, (.iconst 0, 65, 0, [])),
  (65, (.iastore, 66, 0, [])),
  (66, (.aload_n 0, 67, 0, [])),
  (67, (.dup, 68, 0, [])),
  (68, (.getfield 82, 71, 2024, [])),
  (71, (.iconst 1, 72, 0, [])),
  (72, (.iadd, 73, 0, [])),
  (73, (.putfield 82, 76, 2024, [])),
  (76, (.iconst 0, 77, 0, [])),
  (77, (.istore 4, 79, 0, [])),
  (79, (.iload 4, 81, 0, [])),
  (81, (.bipush 12, 83, 0, [])),
  (83, (.if_icmp .ge 24, 86, 107, [])),
  (86, (.aload_n 0, 87, 0, [])),
  (87, (.getfield 37, 90, 2009, [])),
  (90, (.iload 4, 92, 0, [])),
  (92, (.dup2, 93, 0, [])),
  (93, (.iaload, 94, 0, [])),
  (94, (.iconst 1, 95, 0, [])),
  (95, (.iload_n 1, 96, 0, [])),
  (96, (.ishl, 97, 0, [])),
  (97, (.iconst (-1), 98, 0, [])),
  (98, (.ixor, 99, 0, [])),
  (99, (.iand, 100, 0, [])),
  (100, (.iastore, 101, 0, [])),
  (101, (.iinc 4 1, 104, 0, [])),
  (104, (.goto (-25), 107, 79, [])),
  (107, (.return_, 108, 0, []))]
/-- X6_spawn -/
def fj_c85 : List (Nat × fj_I) := [(0, (.iload_n 1, 1, 0, [])),
  (1, (.iconst 0, 2, 0, [])),
  (2, (.sipush 511, 5, 0, [])),
  (5, (.invokestatic 74, 8, 78, [])),
  (8, (.ifCond .ne 6, 11, 14, [])),
  (11, (.bipush (-2), 13, 0, [])),
  (13, (.ireturn, 14, 0, [])),
  (14, (.aload_n 0, 15, 0, [])),
  (15, (.invokevirtual 85, 18, 83, [])),
  (18, (.istore_n 3, 19, 0, [])),
  (19, (.iload_n 3, 20, 0, [])),
  (20, (.ifCond .ge 6, 23, 26, [])),
  (23, (.bipush (-4), 25, 0, [])),
  (25, (.ireturn, 26, 0, [])),
  (26, (.aload_n 0, 27, 0, [])),
  (27, (.iload_n 3, 28, 0, [])),
  (28, (.iload_n 1, 29, 0, [])),
  (29, (.iload_n 2, 30, 0, [])),
  (30, (.invokevirtual 89, 33, 84, [])),
  (33, (.aload_n 0, 34, 0, [])),
  (34, (.invokevirtual 93, 37, 93, [])),
  (37, (.iload_n 3, 38, 0, [])),
  (38, (.ireturn, 39, 0, []))]
/-- X6_quantum -/
def fj_c86 : List (Nat × fj_I) := [(0, (.iload_n 1, 1, 0, [])),
  (1, (.iconst 1, 2, 0, [])),
  (2, (.bipush 50, 4, 0, [])),
  (4, (.invokestatic 74, 7, 78, [])),
  (7, (.ifCond .ne 6, 10, 13, [])),
  (10, (.bipush (-2), 12, 0, [])),
  (12, (.ireturn, 13, 0, [])),
  (13, (.aload_n 0, 14, 0, [])),
  (14, (.getfield 67, 17, 2022, [])),
  (17, (.istore_n 2, 18, 0, [])),
  (18, (.aload_n 0, 19, 0, [])),
  (19, (.iload_n 1, 20, 0, [])),
  (20, (.putfield 67, 23, 2022, [])),
  (23, (.iload_n 2, 24, 0, [])),
  (24, (.ireturn, 25, 0, []))]
/-- X6_isChannel -/
def fj_c87 : List (Nat × fj_I) := [(0, (.iload_n 0, 1, 0, [])),
  (1, (.iconst 0, 2, 0, [])),
  (2, (.iconst 5, 3, 0, [])),
  (3, (.invokestatic 74, 6, 78, [])),
  (6, (.ireturn, 7, 0, []))]
/-- X6_size -/
def fj_c88 : List (Nat × fj_I) := [(0, (.iload_n 1, 1, 0, [])),
  (1, (.invokestatic 96, 4, 87, [])),
  (4, (.ifCond .ne 5, 7, 9, [])),
  (7, (.iconst (-1), 8, 0, [])),
  (8, (.ireturn, 9, 0, [])),
  (9, (.iload_n 2, 10, 0, [])),
  (10, (.iconst 1, 11, 0, [])),
  (11, (.bipush 8, 13, 0, [])),
  (13, (.invokestatic 74, 16, 78, [])),
  (16, (.ifCond .eq 13, 19, 29, [])),
  (19, (.iload_n 2, 20, 0, [])),
  (20, (.aload_n 0, 21, 0, [])),
  (21, (.getfield 55, 24, 2015, [])),
  (24, (.iload_n 1, 25, 0, [])),
  (25, (.iaload, 26, 0, [])),
  (26, (.if_icmp .ge 6, 29, 32, [])),
  (29, (.bipush (-2), 31, 0, [])),
  (31, (.ireturn, 32, 0, [])),
  (32, (.aload_n 0, 33, 0, [])),
  (33, (.getfield 52, 36, 2014, [])),
  (36, (.iload_n 1, 37, 0, [])),
  (37, (.iaload, 38, 0, [])),
  (38, (.istore_n 3, 39, 0, [])),
  (39, (.aload_n 0, 40, 0, [])),
  (40, (.getfield 52, 43, 2014, [])),
  (43, (.iload_n 1, 44, 0, [])),
  (44, (.iload_n 2, 45, 0, [])),
  (45, (.iastore, 46, 0, [])),
  (46, (.aload_n 0, 47, 0, [])),
  (47, (.invokevirtual 93, 50, 93, [])),
  (50, (.iload_n 3, 51, 0, [])),
  (51, (.ireturn, 52, 0, []))]
/-- X6_comes -/
def fj_c89 : List (Nat × fj_I) := [(0, (.aload_n 0, 1, 0, [])),
  (1, (.getfield 58, 4, 2016, [])),
  (4, (.bipush 8, 6, 0, [])),
  (6, (.iload_n 1, 7, 0, [])),
  (7, (.imul, 8, 0, [])),
  (8, (.aload_n 0, 9, 0, [])),
  (9, (.getfield 55, 12, 2015, [])),
  (12, (.iload_n 1, 13, 0, [])),
  (13, (.iaload, 14, 0, [])),
  (14, (.iadd, 15, 0, [])),
  (15, (.iload_n 2, 16, 0, [])),
  (16, (.iastore, 17, 0, [])),
  (17, (.aload_n 0, 18, 0, [])),
  (18, (.getfield 55, 21, 2015, [])),
  (21, (.iload_n 1, 22, 0, [])),
  (22, (.dup2, 23, 0, [])),
  (23, (.iaload, 24, 0, [])),
  (24, (.iconst 1, 25, 0, [])),
  (25, (.iadd, 26, 0, [])),
  (26, (.iastore, 27, 0, [])),
  (27, (.return_, 28, 0, []))]
/-- X6_goes -/
def fj_c90 : List (Nat × fj_I) := [(0, (.aload_n 0, 1, 0, [])),
  (1, (.getfield 58, 4, 2016, [])),
  (4, (.bipush 8, 6, 0, [])),
  (6, (.iload_n 1, 7, 0, [])),
  (7, (.imul, 8, 0, [])),
  (8, (.iaload, 9, 0, [])),
  (9, (.istore_n 2, 10, 0, [])),
  (10, (.aload_n 0, 11, 0, [])),
  (11, (.getfield 55, 14, 2015, [])),
  (14, (.iload_n 1, 15, 0, [])),
  (15, (.dup2, 16, 0, [])),
  (16, (.iaload, 17, 0, [])),
  (17, (.iconst 1, 18, 0, [])),
  (18, (.isub, 19, 0, [])),
  (19, (.iastore, 20, 0, [])),
  (20, (.iconst 0, 21, 0, [])),
  (21, (.istore_n 3, 22, 0, [])),
  (22, (.iload_n 3, 23, 0, [])),
  (23, (.aload_n 0, 24, 0, [])),
  (24, (.getfield 55, 27, 2015, [])),
  (27, (.iload_n 1, 28, 0, [])),
  (28, (.iaload, 29, 0, [])),
  (29, (.if_icmp .ge 33, 32, 62, [])),
  (32, (.aload_n 0, 33, 0, [])),
  (33, (.getfield 58, 36, 2016, [])),
  (36, (.bipush 8, 38, 0, [])),
  (38, (.iload_n 1, 39, 0, [])),
  (39, (.imul, 40, 0, [])),
  (40, (.iload_n 3, 41, 0, [])),
  (41, (.iadd, 42, 0, [])),
  (42, (.aload_n 0, 43, 0, [])),
  (43, (.getfield 58, 46, 2016, [])),
  (46, (.bipush 8, 48, 0, [])),
  (48, (.iload_n 1, 49, 0, [])),
  (49, (.imul, 50, 0, [])),
  (50, (.iload_n 3, 51, 0, [])),
  (51, (.iadd, 52, 0, [])),
  (52, (.iconst 1, 53, 0, [])),
  (53, (.iadd, 54, 0, [])),
  (54, (.iaload, 55, 0, [])),
  (55, (.iastore, 56, 0, [])),
  (56, (.iinc 3 1, 59, 0, [])),
  (59, (.goto (-37), 62, 22, [])),
  (62, (.iload_n 2, 63, 0, [])),
  (63, (.ireturn, 64, 0, []))]
/-- X6_put -/
def fj_c91 : List (Nat × fj_I) := [(0, (.iload_n 1, 1, 0, [])),
  (1, (.invokestatic 96, 4, 87, [])),
  (4, (.ifCond .ne 5, 7, 9, [])),
  (7, (.iconst (-1), 8, 0, [])),
  (8, (.ireturn, 9, 0, [])),
  (9, (.aload_n 0, 10, 0, [])),
  (10, (.getfield 55, 13, 2015, [])),
  (13, (.iload_n 1, 14, 0, [])),
  (14, (.iaload, 15, 0, [])),
  (15, (.aload_n 0, 16, 0, [])),
  (16, (.getfield 52, 19, 2014, [])),
  (19, (.iload_n 1, 20, 0, [])),
  (20, (.iaload, 21, 0, [])),
  (21, (.if_icmp .ne 6, 24, 27, [])),
  (24, (.bipush (-4), 26, 0, [])),
  (26, (.ireturn, 27, 0, [])),
  (27, (.aload_n 0, 28, 0, [])),
  (28, (.iload_n 1, 29, 0, [])),
  (29, (.iload_n 2, 30, 0, [])),
  (30, (.invokevirtual 99, 33, 89, [])),
  (33, (.aload_n 0, 34, 0, [])),
  (34, (.getfield 55, 37, 2015, [])),
  (37, (.iload_n 1, 38, 0, [])),
  (38, (.iaload, 39, 0, [])),
  (39, (.istore_n 3, 40, 0, [])),
  (40, (.aload_n 0, 41, 0, [])),
  (41, (.invokevirtual 93, 44, 93, [])),
  (44, (.iload_n 3, 45, 0, [])),
  (45, (.ireturn, 46, 0, []))]
/-- X6_take -/
def fj_c92 : List (Nat × fj_I) := [(0, (.iload_n 1, 1, 0, [])),
  (1, (.invokestatic 96, 4, 87, [])),
  (4, (.ifCond .eq 12, 7, 16, [])),
  (7, (.aload_n 0, 8, 0, [])),
  (8, (.getfield 55, 11, 2015, [])),
  (11, (.iload_n 1, 12, 0, [])),
  (12, (.iaload, 13, 0, [])),
  (13, (.ifCond .ne 5, 16, 18, [])),
  (16, (.iconst 0, 17, 0, [])),
  (17, (.ireturn, 18, 0, [])),
  (18, (.aload_n 0, 19, 0, [])),
  (19, (.iload_n 1, 20, 0, [])),
  (20, (.invokevirtual 103, 23, 90, [])),
  (23, (.istore_n 2, 24, 0, [])),
  (24, (.aload_n 0, 25, 0, [])),
  (25, (.invokevirtual 93, 28, 93, [])),
  (28, (.iload_n 2, 29, 0, [])),
  (29, (.ireturn, 30, 0, []))]
/-- X6_wake -/
def fj_c93 : List (Nat × fj_I) := [(0, (.iconst 0, 1, 0, [])),
  (1, (.istore_n 1, 2, 0, [])),
  (2, (.iload_n 1, 3, 0, [])),
  (3, (.bipush 12, 5, 0, [])),
  (5, (.if_icmp .ge 186, 8, 191, [])),
  (8, (.aload_n 0, 9, 0, [])),
  (9, (.getfield 16, 12, 2002, [])),
  (12, (.iload_n 1, 13, 0, [])),
  (13, (.iaload, 14, 0, [])),
  (14, (.iconst 2, 15, 0, [])),
  (15, (.if_icmp .ne 32, 18, 47, [])),
  (18, (.aload_n 0, 19, 0, [])),
  (19, (.getfield 55, 22, 2015, [])),
  (22, (.aload_n 0, 23, 0, [])),
  (23, (.getfield 46, 26, 2012, [])),
  (26, (.iload_n 1, 27, 0, [])),
  (27, (.iaload, 28, 0, [])),
  (28, (.iaload, 29, 0, [])),
  (29, (.aload_n 0, 30, 0, [])),
  (30, (.getfield 52, 33, 2014, [])),
  (33, (.aload_n 0, 34, 0, [])),
  (34, (.getfield 46, 37, 2012, [])),
  (37, (.iload_n 1, 38, 0, [])),
  (38, (.iaload, 39, 0, [])),
  (39, (.iaload, 40, 0, [])),
  (40, (.if_icmp .ge 7, 43, 47, [])),
  (43, (.iconst 1, 44, 0, [])),
  (44, (.goto 4, 47, 48, [])),
  (47, (.iconst 0, 48, 0, [])),
  (48, (.istore_n 2, 49, 0, [])),
  (49, (.iload_n 2, 50, 0, [])),
  (50, (.ifCond .ne 27, 53, 77, [])),
  (53, (.aload_n 0, 54, 0, [])),
  (54, (.getfield 16, 57, 2002, [])),
  (57, (.iload_n 1, 58, 0, [])),
  (58, (.iaload, 59, 0, [])),
  (59, (.iconst 3, 60, 0, [])),
  (60, (.if_icmp .ne 21, 63, 81, [])),
  (63, (.aload_n 0, 64, 0, [])),
  (64, (.getfield 55, 67, 2015, [])),
  (67, (.aload_n 0, 68, 0, [])),
  (68, (.getfield 46, 71, 2012, [])),
  (71, (.iload_n 1, 72, 0, [])),
  (72, (.iaload, 73, 0, [])),
  (73, (.iaload, 74, 0, [])),
  (74, (.ifCond .le 7, 77, 81, [])),
  (77, (.iconst 1, 78, 0, [])),
  (78, (.goto 4, 81, 82, [])),
  (81, (.iconst 0, 82, 0, [])),
  (82, (.istore_n 2, 83, 0, [])),
  (83, (.iload_n 2, 84, 0, [])),
  (84, (.ifCond .ne 41, 87, 125, [])),
  (87, (.aload_n 0, 88, 0, [])),
  (88, (.getfield 16, 91, 2002, [])),
  (91, (.iload_n 1, 92, 0, [])),
  (92, (.iaload, 93, 0, [])),
  (93, (.iconst 4, 94, 0, [])),
  (94, (.if_icmp .ne 35, 97, 129, [])),
  (97, (.aload_n 0, 98, 0, [])),
  (98, (.getfield 55, 101, 2015, [])),
  (101, (.aload_n 0, 102, 0, [])),
  (102, (.getfield 46, 105, 2012, [])),
  (105, (.iload_n 1, 106, 0, [])),
  (106, (.iaload, 107, 0, [])),
  (107, (.iaload, 108, 0, [])),
  (108, (.ifCond .gt 17, 111, 125, [])),
  (111, (.aload_n 0, 112, 0, [])),
  (112, (.getfield 55, 115, 2015, [])),
  (115, (.aload_n 0, 116, 0, [])),
  (116, (.getfield 49, 119, 2013, [])),
  (119, (.iload_n 1, 120, 0, [])),
  (120, (.iaload, 121, 0, [])),
  (121, (.iaload, 122, 0, [])),
  (122, (.ifCond .le 7, 125, 129, [])),
  (125, (.iconst 1, 126, 0, [])),
  (126, (.goto 4, 129, 130, [])),
  (129, (.iconst 0, 130, 0, [])),
  (130, (.istore_n 2, 131, 0, [])),
  (131, (.iload_n 2, 132, 0, [])),
  (132, (.ifCond .ne 27, 135, 159, [])),
  (135, (.aload_n 0, 136, 0, [])),
  (136, (.getfield 16, 139, 2002, [])),
  (139, (.iload_n 1, 140, 0, [])),
  (140, (.iaload, 141, 0, [])),
  (141, (.bipush 6, 143, 0, [])),
  (143, (.if_icmp .ne 20, 146, 163, [])),
  (146, (.aload_n 0, 147, 0, [])),
  (147, (.aload_n 0, 148, 0, [])),
  (148, (.getfield 46, 151, 2012, [])),
  (151, (.iload_n 1, 152, 0, [])),
  (152, (.iaload, 153, 0, [])),
  (153, (.invokevirtual 78, 156, 82, [])),
  (156, (.ifCond .ne 7, 159, 163, [])),
  (159, (.iconst 1, 160, 0, [])),
  (160, (.goto 4, 163, 164, [])),
  (163, (.iconst 0, 164, 0, [])),
  (164, (.istore_n 2, 165, 0, [])),
  (165, (.aload_n 0, 166, 0, [])),
  (166, (.getfield 16, 169, 2002, [])),
  (169, (.iload_n 1, 170, 0, [])),
  (170, (.iload_n 2, 171, 0, [])),
  (171, (.ifCond .eq 7, 174, 178, [])),
  (174, (.iconst 1, 175, 0, [])),
  (175, (.goto 9, 178, 184, [])),
  (178, (.aload_n 0, 179, 0, [])),
  (179, (.getfield 16, 182, 2002, [])),
  (182, (.iload_n 1, 183, 0, [])),
  (183, (.iaload, 184, 0, [])),
  (184, (.iastore, 185, 0, [])),
  (185, (.iinc 1 1, 188, 0, [])),
  (188, (.goto (-186), 191, 2, [])),
  (191, (.return_, 192, 0, []))]
/-- X6_fault -/
def fj_c94 : List (Nat × fj_I) := [(0, (.aload_n 0, 1, 0, [])),
  (1, (.dup, 2, 0, [])),
  (2, (.getfield 107, 5, 2025, [])),
  (5, (.iconst 1, 6, 0, [])),
  (6, (.iadd, 7, 0, [])),
  (7, (.putfield 107, 10, 2025, [])),
  (10, (.aload_n 0, 11, 0, [])),
  (11, (.getfield 40, 14, 2010, [])),
  (14, (.iload_n 1, 15, 0, [])),
  (15, (.iconst 0, 16, 0, [])),
  (16, (.iastore, 17, 0, [])),
  (17, (.iload_n 3, 18, 0, [])),
  (18, (.ifCond .eq 65, 21, 83, [])),
  (21, (.aload_n 0, 22, 0, [])),
  (22, (.getfield 34, 25, 2008, [])),
  (25, (.iload_n 1, 26, 0, [])),
  (26, (.iaload, 27, 0, [])),
  (27, (.ifCond .lt 56, 30, 83, [])),
  (30, (.aload_n 0, 31, 0, [])),
  (31, (.getfield 16, 34, 2002, [])),
  (34, (.iload_n 1, 35, 0, [])),
  (35, (.iconst 1, 36, 0, [])),
  (36, (.iastore, 37, 0, [])),
  (37, (.aload_n 0, 38, 0, [])),
  (38, (.getfield 19, 41, 2003, [])),
  (41, (.iload_n 1, 42, 0, [])),
  (42, (.aload_n 0, 43, 0, [])),
  (43, (.getfield 34, 46, 2008, [])),
  (46, (.iload_n 1, 47, 0, [])),
  (47, (.iaload, 48, 0, [])),
  (48, (.iastore, 49, 0, [])),
  (49, (.aload_n 0, 50, 0, [])),
  (50, (.getfield 22, 53, 2004, [])),
  (53, (.iload_n 1, 54, 0, [])),
  (54, (.iconst 1, 55, 0, [])),
  (55, (.iastore, 56, 0, [])),
  (56, (.aload_n 0, 57, 0, [])),
  (57, (.getfield 25, 60, 2005, [])),
  (60, (.bipush 24, 62, 0, [])),
  (62, (.iload_n 1, 63, 0, [])),
  (63, (.imul, 64, 0, [])),
  (64, (.iload_n 2, 65, 0, [])),
  (65, (.iastore, 66, 0, [])),
  (66, (.aload_n 0, 67, 0, [])),
  (67, (.getfield 28, 70, 2006, [])),
  (70, (.iload_n 1, 71, 0, [])),
  (71, (.iconst 0, 72, 0, [])),
  (72, (.iastore, 73, 0, [])),
  (73, (.aload_n 0, 74, 0, [])),
  (74, (.getfield 34, 77, 2008, [])),
  (77, (.iload_n 1, 78, 0, [])),
  (78, (.iconst (-1), 79, 0, [])),
  (79, (.iastore, 80, 0, [])),
  (80, (.goto 39, 83, 119, [])),
  (83, (.aload_n 0, 84, 0, [])),
  (84, (.getfield 16, 87, 2002, [])),
  (87, (.iload_n 1, 88, 0, [])),
  (88, (.bipush 8, 90, 0, [])),
  (90, (.iastore, 91, 0, [])),
  (91, (.aload_n 0, 92, 0, [])),
  (92, (.getfield 43, 95, 2011, [])),
  (95, (.iload_n 1, 96, 0, [])),
  (96, (.iload_n 2, 97, 0, [])),
  (97, (.ineg, 98, 0, [])),
  (98, (.iastore, 99, 0, [])),
  (99, (.aload_n 0, 100, 0, [])),
  (100, (.getfield 64, 103, 2026, [])),
  (103, (.aload_n 0, 104, 0, [])),
  (104, (.getfield 110, 107, 2027, [])),
  (107, (.iload_n 1, 108, 0, [])),
  (108, (.iastore, 109, 0, [])),
  (109, (.aload_n 0, 110, 0, [])),
  (110, (.dup, 111, 0, [])),
  (111, (.getfield 110, 114, 2027, [])),
  (114, (.iconst 1, 115, 0, [])),
  (115, (.iadd, 116, 0, [])),
  (116, (.putfield 110, 119, 2027, [])),
  (119, (.return_, 120, 0, []))]
/-- X6_spread -/
def fj_c95 : List (Nat × fj_I) := [(0, (.iconst 0, 1, 0, [])),
  (1, (.istore_n 1, 2, 0, [])),
  (2, (.iload_n 1, 3, 0, [])),
  (3, (.aload_n 0, 4, 0, [])),
  (4, (.getfield 110, 7, 2027, [])),
  (7, (.if_icmp .ge 58, 10, 65, [])),
  (10, (.iconst 0, 11, 0, [])),
  (11, (.istore_n 2, 12, 0, [])),
  (12, (.iload_n 2, 13, 0, [])),
  (13, (.bipush 12, 15, 0, [])),
  (15, (.if_icmp .ge 44, 18, 59, [])),
  (18, (.aload_n 0, 19, 0, [])),
  (19, (.iload_n 2, 20, 0, [])),
  (20, (.invokevirtual 78, 23, 82, [])),
  (23, (.ifCond .eq 30, 26, 53, [])),
  (26, (.aload_n 0, 27, 0, [])),
  (27, (.getfield 37, 30, 2009, [])),
  (30, (.iload_n 2, 31, 0, [])),
  (31, (.iaload, 32, 0, [])),
  (32, (.aload_n 0, 33, 0, [])),
  (33, (.getfield 64, 36, 2026, [])),
  (36, (.iload_n 1, 37, 0, [])),
  (37, (.iaload, 38, 0, [])),
  (38, (.ishr, 39, 0, [])),
  (39, (.iconst 1, 40, 0, [])),
  (40, (.iand, 41, 0, [])),
  (41, (.iconst 1, 42, 0, [])),
  (42, (.if_icmp .ne 11, 45, 53, [])),
  (45, (.aload_n 0, 46, 0, [])),
  (46, (.iload_n 2, 47, 0, [])),
  (47, (.bipush 8, 49, 0, [])),
  (49, (.iconst 1, 50, 0, [])),
  (50, (.invokevirtual 113, 53, 94, [])),
  (53, (.iinc 2 1, 56, 0, [])),
  (56, (.goto (-44), 59, 12, [])),
  (59, (.iinc 1 1, 62, 0, [])),
  (62, (.goto (-60), 65, 2, [])),
  (65, (.return_, 66, 0, []))]
/-- X6_ring -/
def fj_c96 : List (Nat × fj_I) := [(0, (.iconst 1, 1, 0, [])),
  (1, (.istore_n 1, 2, 0, [])),
  (2, (.iload_n 1, 3, 0, [])),
  (3, (.bipush 12, 5, 0, [])),
  (5, (.if_icmp .gt 31, 8, 36, [])),
  (8, (.aload_n 0, 9, 0, [])),
  (9, (.getfield 117, 12, 2020, [])),
  (12, (.iload_n 1, 13, 0, [])),
  (13, (.iadd, 14, 0, [])),
  (14, (.bipush 12, 16, 0, [])),
  (16, (.irem, 17, 0, [])),
  (17, (.istore_n 2, 18, 0, [])),
  (18, (.aload_n 0, 19, 0, [])),
  (19, (.getfield 16, 22, 2002, [])),
  (22, (.iload_n 2, 23, 0, [])),
  (23, (.iaload, 24, 0, [])),
  (24, (.iconst 1, 25, 0, [])),
  (25, (.if_icmp .ne 5, 28, 30, [])),
  (28, (.iload_n 2, 29, 0, [])),
  (29, (.ireturn, 30, 0, [])),
  (30, (.iinc 1 1, 33, 0, [])),
  (33, (.goto (-31), 36, 2, [])),
  (36, (.iconst (-1), 37, 0, [])),
  (37, (.ireturn, 38, 0, []))]
/-- X6_step -/
def fj_c97 : List (Nat × fj_I) := [(0, (.iconst 0, 1, 0, [])),
  (1, (.istore_n 1, 2, 0, [])),
  (2, (.iconst 0, 3, 0, [])),
  (3, (.istore_n 2, 4, 0, [])),
  (4, (.iconst 0, 5, 0, [])),
  (5, (.istore_n 3, 6, 0, [])),
  (6, (.iload_n 3, 7, 0, [])),
  (7, (.bipush 12, 9, 0, [])),
  (9, (.if_icmp .ge 84, 12, 93, [])),
  (12, (.aload_n 0, 13, 0, [])),
  (13, (.getfield 16, 16, 2002, [])),
  (16, (.iload_n 3, 17, 0, [])),
  (17, (.iaload, 18, 0, [])),
  (18, (.iconst 5, 19, 0, [])),
  (19, (.if_icmp .ne 30, 22, 49, [])),
  (22, (.aload_n 0, 23, 0, [])),
  (23, (.getfield 40, 26, 2010, [])),
  (26, (.iload_n 3, 27, 0, [])),
  (27, (.iaload, 28, 0, [])),
  (28, (.aload_n 0, 29, 0, [])),
  (29, (.getfield 120, 32, 2019, [])),
  (32, (.if_icmp .gt 17, 35, 49, [])),
  (35, (.aload_n 0, 36, 0, [])),
  (36, (.getfield 16, 39, 2002, [])),
  (39, (.iload_n 3, 40, 0, [])),
  (40, (.iconst 1, 41, 0, [])),
  (41, (.iastore, 42, 0, [])),
  (42, (.aload_n 0, 43, 0, [])),
  (43, (.getfield 40, 46, 2010, [])),
  (46, (.iload_n 3, 47, 0, [])),
  (47, (.iconst 0, 48, 0, [])),
  (48, (.iastore, 49, 0, [])),
  (49, (.iload_n 1, 50, 0, [])),
  (50, (.ifCond .ne 11, 53, 61, [])),
  (53, (.aload_n 0, 54, 0, [])),
  (54, (.iload_n 3, 55, 0, [])),
  (55, (.invokevirtual 78, 58, 82, [])),
  (58, (.ifCond .eq 7, 61, 65, [])),
  (61, (.iconst 1, 62, 0, [])),
  (62, (.goto 4, 65, 66, [])),
  (65, (.iconst 0, 66, 0, [])),
  (66, (.istore_n 1, 67, 0, [])),
  (67, (.iload_n 2, 68, 0, [])),
  (68, (.ifCond .ne 13, 71, 81, [])),
  (71, (.aload_n 0, 72, 0, [])),
  (72, (.getfield 16, 75, 2002, [])),
  (75, (.iload_n 3, 76, 0, [])),
  (76, (.iaload, 77, 0, [])),
  (77, (.iconst 5, 78, 0, [])),
  (78, (.if_icmp .ne 7, 81, 85, [])),
  (81, (.iconst 1, 82, 0, [])),
  (82, (.goto 4, 85, 86, [])),
  (85, (.iconst 0, 86, 0, [])),
  (86, (.istore_n 2, 87, 0, [])),
  (87, (.iinc 3 1, 90, 0, [])),
  (90, (.goto (-84), 93, 6, [])),
  (93, (.aload_n 0, 94, 0, [])),
  (94, (.getfield 123, 97, 2021, [])),
  (97, (.ifCond .le 23, 100, 120, [])),
  (100, (.aload_n 0, 101, 0, [])),
  (101, (.getfield 16, 104, 2002, [])),
  (104, (.aload_n 0, 105, 0, [])),
  (105, (.getfield 117, 108, 2020, [])),
  (108, (.iaload, 109, 0, [])),
  (109, (.iconst 1, 110, 0, [])),
  (110, (.if_icmp .ne 10, 113, 120, [])),
  (113, (.aload_n 0, 114, 0, [])),
  (114, (.getfield 117, 117, 2020, [])),
  (117, (.goto 7, 120, 124, [])),
  (120, (.aload_n 0, 121, 0, [])),
  (121, (.invokevirtual 126, 124, 96, [])),
  (124, (.istore_n 3, 125, 0, [])),
  (125, (.iload_n 3, 126, 0, [])),
  (126, (.ifCond .ge 51, 129, 177, [])),
  (129, (.aload_n 0, 130, 0, [])),
  (130, (.iload_n 1, 131, 0, [])),
  (131, (.ifCond .ne 7, 134, 138, [])),
  (134, (.iconst 2, 135, 0, [])),
  (135, (.goto 12, 138, 147, [])),
  (138, (.iload_n 2, 139, 0, [])),
  (139, (.ifCond .eq 7, 142, 146, [])),
  (142, (.iconst 1, 143, 0, [])),
  (143, (.goto 4, 146, 147, [])),
  (146, (.iconst 3, 147, 0, [])),
  (147, (.putfield 71, 150, 2023, [])),
  (150, (.aload_n 0, 151, 0, [])),
  (151, (.dup, 152, 0, [])),
  (152, (.getfield 120, 155, 2019, [])),
  (155, (.aload_n 0, 156, 0, [])),
  (156, (.getfield 71, 159, 2023, [])),
  (159, (.iconst 1, 160, 0, [])),
  (160, (.if_icmp .ne 7, 163, 167, [])),
  (163, (.iconst 1, 164, 0, [])),
  (164, (.goto 4, 167, 168, [])),
  (167, (.iconst 0, 168, 0, [])),
  (168, (.iadd, 169, 0, [])),
  (169, (.putfield 120, 172, 2019, [])),
  (172, (.aload_n 0, 173, 0, [])),
  (173, (.getfield 71, 176, 2023, [])),
  (176, (.ireturn, 177, 0, [])),
  (177, (.aload_n 0, 178, 0, [])),
  (178, (.aload_n 0, 179, 0, [])),
  (179, (.getfield 123, 182, 2021, [])),
  (182, (.ifCond .le 23, 185, 205, [])),
  (185, (.aload_n 0, 186, 0, [])),
  (186, (.getfield 16, 189, 2002, [])),
  (189, (.aload_n 0, 190, 0, [])),
  (190, (.getfield 117, 193, 2020, [])),
  (193, (.iaload, 194, 0, [])),
  (194, (.iconst 1, 195, 0, [])),
  (195, (.if_icmp .ne 10, 198, 205, [])),
  (198, (.aload_n 0, 199, 0, [])),
  (199, (.getfield 123, 202, 2021, [])),
  (202, (.goto 7, 205, 209, [])),
  (205, (.aload_n 0, 206, 0, [])),
  (206, (.getfield 67, 209, 2022, [])),
  (209, (.putfield 123, 212, 2021, [])),
  (212, (.aload_n 0, 213, 0, [])),
  (213, (.iload_n 3, 214, 0, [])),
  (214, (.putfield 117, 217, 2020, [])),
  (217, (.aload_n 0, 218, 0, [])),
  (218, (.dup, 219, 0, [])),
  (219, (.getfield 123, 222, 2021, [])),
  (222, (.iconst 1, 223, 0, [])),
  (223, (.isub, 224, 0, [])),
  (224, (.putfield 123, 227, 2021, [])),
  (227, (.aload_n 0, 228, 0, [])),
  (228, (.iconst 0, 229, 0, [])),
  (229, (.putfield 110, 232, 2027, [])),
  (232, (.aload_n 0, 233, 0, [])),
  (233, (.aload_n 0, 234, 0, [])),
  (234, (.getfield 117, 237, 2020, [])),
  (237, (.invokevirtual 129, 240, 102, [])),
  (240, (.istore 4, 242, 0, [])),
  (242, (.iload 4, 244, 0, [])),
  (244, (.ifCond .le 14, 247, 258, [])),
  (247, (.aload_n 0, 248, 0, [])),
  (248, (.aload_n 0, 249, 0, [])),
  (249, (.getfield 117, 252, 2020, [])),
  (252, (.iload 4, 254, 0, [])),
  (254, (.iconst 1, 255, 0, [])),
  (255, (.invokevirtual 113, 258, 94, [])),
  (258, (.aload_n 0, 259, 0, [])),
  (259, (.invokevirtual 132, 262, 95, [])),
  (262, (.aload_n 0, 263, 0, [])),
  (263, (.dup, 264, 0, [])),
  (264, (.getfield 120, 267, 2019, [])),
  (267, (.iconst 1, 268, 0, [])),
  (268, (.iadd, 269, 0, [])),
  (269, (.putfield 120, 272, 2019, [])),
  (272, (.aload_n 0, 273, 0, [])),
  (273, (.invokevirtual 93, 276, 93, [])),
  (276, (.aload_n 0, 277, 0, [])),
  (277, (.iconst 0, 278, 0, [])),
  (278, (.putfield 71, 281, 2023, [])),
  (281, (.iconst 0, 282, 0, [])),
  (282, (.ireturn, 283, 0, []))]
/-- X6_run -/
def fj_c98 : List (Nat × fj_I) := [(0, (.iload_n 1, 1, 0, [])),
  (1, (.iconst 0, 2, 0, [])),
  (2, (.sipush 5000, 5, 0, [])),
  (5, (.invokestatic 74, 8, 78, [])),
  (8, (.ifCond .ne 6, 11, 14, [])),
  (11, (.bipush (-2), 13, 0, [])),
  (13, (.ireturn, 14, 0, [])),
  (14, (.iconst 0, 15, 0, [])),
  (15, (.istore_n 2, 16, 0, [])),
  (16, (.iload_n 2, 17, 0, [])),
  (17, (.iload_n 1, 18, 0, [])),
  (18, (.if_icmp .ge 26, 21, 44, [])),
  (21, (.aload_n 0, 22, 0, [])),
  (22, (.invokevirtual 135, 25, 97, [])),
  (25, (.istore_n 3, 26, 0, [])),
  (26, (.iload_n 3, 27, 0, [])),
  (27, (.iconst 2, 28, 0, [])),
  (28, (.if_icmp .eq 8, 31, 36, [])),
  (31, (.iload_n 3, 32, 0, [])),
  (32, (.iconst 3, 33, 0, [])),
  (33, (.if_icmp .ne 5, 36, 38, [])),
  (36, (.iload_n 2, 37, 0, [])),
  (37, (.ireturn, 38, 0, [])),
  (38, (.iinc 2 1, 41, 0, [])),
  (41, (.goto (-25), 44, 16, [])),
  (44, (.iload_n 2, 45, 0, [])),
  (45, (.ireturn, 46, 0, []))]
/-- X6_takes -/
def fj_c99 : List (Nat × fj_I) := [(0, (.iload_n 0, 1, 0, [])),
  (1, (.iconst 4, 2, 0, [])),
  (2, (.bipush 10, 4, 0, [])),
  (4, (.invokestatic 74, 7, 78, [])),
  (7, (.ifCond .ne 20, 10, 27, [])),
  (10, (.iload_n 0, 11, 0, [])),
  (11, (.bipush 12, 13, 0, [])),
  (13, (.bipush 18, 15, 0, [])),
  (15, (.invokestatic 74, 18, 78, [])),
  (18, (.ifCond .ne 9, 21, 27, [])),
  (21, (.iload_n 0, 22, 0, [])),
  (22, (.bipush 27, 24, 0, [])),
  (24, (.if_icmp .ne 5, 27, 29, [])),
  (27, (.iconst 2, 28, 0, [])),
  (28, (.ireturn, 29, 0, [])),
  (29, (.iload_n 0, 30, 0, [])),
  (30, (.iconst 2, 31, 0, [])),
  (31, (.iconst 3, 32, 0, [])),
  (32, (.invokestatic 74, 35, 78, [])),
  (35, (.ifCond .ne 85, 38, 120, [])),
  (38, (.iload_n 0, 39, 0, [])),
  (39, (.bipush 11, 41, 0, [])),
  (41, (.if_icmp .eq 79, 44, 120, [])),
  (44, (.iload_n 0, 45, 0, [])),
  (45, (.bipush 19, 47, 0, [])),
  (47, (.if_icmp .eq 73, 50, 120, [])),
  (50, (.iload_n 0, 51, 0, [])),
  (51, (.bipush 21, 53, 0, [])),
  (53, (.if_icmp .eq 67, 56, 120, [])),
  (56, (.iload_n 0, 57, 0, [])),
  (57, (.bipush 25, 59, 0, [])),
  (59, (.if_icmp .eq 61, 62, 120, [])),
  (62, (.iload_n 0, 63, 0, [])),
  (63, (.bipush 26, 65, 0, [])),
  (65, (.if_icmp .eq 55, 68, 120, [])),
  (68, (.iload_n 0, 69, 0, [])),
  (69, (.bipush 28, 71, 0, [])),
  (71, (.if_icmp .eq 49, 74, 120, [])),
  (74, (.iload_n 0, 75, 0, [])),
  (75, (.bipush 30, 77, 0, [])),
  (77, (.bipush 31, 79, 0, [])),
  (79, (.invokestatic 74, 82, 78, [])),
  (82, (.ifCond .ne 38, 85, 120, [])),
  (85, (.iload_n 0, 86, 0, [])),
  (86, (.bipush 33, 88, 0, [])),
  (88, (.if_icmp .eq 32, 91, 120, [])),
  (91, (.iload_n 0, 92, 0, [])),
  (92, (.bipush 36, 94, 0, [])),
  (94, (.if_icmp .eq 26, 97, 120, [])),
  (97, (.iload_n 0, 98, 0, [])),
  (98, (.bipush 39, 100, 0, [])),
  (100, (.bipush 41, 102, 0, [])),
  (102, (.invokestatic 74, 105, 78, [])),
  (105, (.ifCond .ne 15, 108, 120, [])),
  (108, (.iload_n 0, 109, 0, [])),
  (109, (.bipush 43, 111, 0, [])),
  (111, (.if_icmp .eq 9, 114, 120, [])),
  (114, (.iload_n 0, 115, 0, [])),
  (115, (.bipush 45, 117, 0, [])),
  (117, (.if_icmp .ne 7, 120, 124, [])),
  (120, (.iconst 1, 121, 0, [])),
  (121, (.goto 4, 124, 125, [])),
  (124, (.iconst 0, 125, 0, [])),
  (125, (.istore_n 1, 126, 0, [])),
  (126, (.iload_n 1, 127, 0, [])),
  (127, (.ifCond .eq 7, 130, 134, [])),
  (130, (.iconst 1, 131, 0, [])),
  (131, (.goto 4, 134, 135, [])),
  (134, (.iconst 0, 135, 0, [])),
  (135, (.ireturn, 136, 0, []))]
/-- X6_topOf -/
def fj_c100 : List (Nat × fj_I) := [(0, (.aload_n 0, 1, 0, [])),
  (1, (.getfield 25, 4, 2005, [])),
  (4, (.bipush 24, 6, 0, [])),
  (6, (.iload_n 1, 7, 0, [])),
  (7, (.imul, 8, 0, [])),
  (8, (.aload_n 0, 9, 0, [])),
  (9, (.getfield 22, 12, 2004, [])),
  (12, (.iload_n 1, 13, 0, [])),
  (13, (.iaload, 14, 0, [])),
  (14, (.iadd, 15, 0, [])),
  (15, (.iconst 1, 16, 0, [])),
  (16, (.isub, 17, 0, [])),
  (17, (.iload_n 2, 18, 0, [])),
  (18, (.isub, 19, 0, [])),
  (19, (.iaload, 20, 0, [])),
  (20, (.ireturn, 21, 0, []))]
/-- X6_gives -/
def fj_c101 : List (Nat × fj_I) := [(0, (.aload_n 0, 1, 0, [])),
  (1, (.getfield 22, 4, 2004, [])),
  (4, (.iload_n 1, 5, 0, [])),
  (5, (.dup2, 6, 0, [])),
  (6, (.iaload, 7, 0, [])),
  (7, (.iload_n 2, 8, 0, [])),
  (8, (.isub, 9, 0, [])),
  (9, (.iastore, 10, 0, [])),
  (10, (.aload_n 0, 11, 0, [])),
  (11, (.getfield 25, 14, 2005, [])),
  (14, (.bipush 24, 16, 0, [])),
  (16, (.iload_n 1, 17, 0, [])),
  (17, (.imul, 18, 0, [])),
  (18, (.aload_n 0, 19, 0, [])),
  (19, (.getfield 22, 22, 2004, [])),
  (22, (.iload_n 1, 23, 0, [])),
  (23, (.iaload, 24, 0, [])),
  (24, (.iadd, 25, 0, [])),
  (25, (.iload_n 3, 26, 0, [])),
  (26, (.iastore, 27, 0, [])),
  (27, (.aload_n 0, 28, 0, [])),
  (28, (.getfield 22, 31, 2004, [])),
  (31, (.iload_n 1, 32, 0, [])),
  (32, (.dup2, 33, 0, [])),
  (33, (.iaload, 34, 0, [])),
  (34, (.iconst 1, 35, 0, [])),
  (35, (.iadd, 36, 0, [])),
  (36, (.iastore, 37, 0, [])),
  (37, (.return_, 38, 0, []))]
/-- X6_work -/
def fj_c102 : List (Nat × fj_I) := [(0, (.aload_n 0, 1, 0, [])),
  (1, (.getfield 19, 4, 2003, [])),
  (4, (.iload_n 1, 5, 0, [])),
  (5, (.iaload, 6, 0, [])),
  (6, (.istore_n 2, 7, 0, [])),
  (7, (.iload_n 2, 8, 0, [])),
  (8, (.iconst 0, 9, 0, [])),
  (9, (.sipush 511, 12, 0, [])),
  (12, (.invokestatic 74, 15, 78, [])),
  (15, (.ifCond .ne 5, 18, 20, [])),
  (18, (.iconst 1, 19, 0, [])),
  (19, (.ireturn, 20, 0, [])),
  (20, (.aload_n 0, 21, 0, [])),
  (21, (.getfield 7, 24, 2000, [])),
  (24, (.iload_n 2, 25, 0, [])),
  (25, (.iaload, 26, 0, [])),
  (26, (.sipush 255, 29, 0, [])),
  (29, (.iand, 30, 0, [])),
  (30, (.istore_n 3, 31, 0, [])),
  (31, (.aload_n 0, 32, 0, [])),
  (32, (.getfield 7, 35, 2000, [])),
  (35, (.iload_n 2, 36, 0, [])),
  (36, (.iaload, 37, 0, [])),
  (37, (.bipush 8, 39, 0, [])),
  (39, (.ishr, 40, 0, [])),
  (40, (.istore 4, 42, 0, [])),
  (42, (.iload_n 3, 43, 0, [])),
  (43, (.bipush 45, 45, 0, [])),
  (45, (.if_icmp .le 5, 48, 50, [])),
  (48, (.iconst 1, 49, 0, [])),
  (49, (.ireturn, 50, 0, [])),
  (50, (.aload_n 0, 51, 0, [])),
  (51, (.getfield 22, 54, 2004, [])),
  (54, (.iload_n 1, 55, 0, [])),
  (55, (.iaload, 56, 0, [])),
  (56, (.iload_n 3, 57, 0, [])),
  (57, (.invokestatic 138, 60, 99, [])),
  (60, (.if_icmp .lt 18, 63, 78, [])),
  (63, (.iload_n 3, 64, 0, [])),
  (64, (.bipush 23, 66, 0, [])),
  (66, (.if_icmp .ne 14, 69, 80, [])),
  (69, (.aload_n 0, 70, 0, [])),
  (70, (.getfield 28, 73, 2006, [])),
  (73, (.iload_n 1, 74, 0, [])),
  (74, (.iaload, 75, 0, [])),
  (75, (.ifCond .ne 5, 78, 80, [])),
  (78, (.iconst 2, 79, 0, [])),
  (79, (.ireturn, 80, 0, [])),
  (80, (.iload_n 3, 81, 0, [])),
  (81, (.invokestatic 138, 84, 99, [])),
  (84, (.ifCond .le 12, 87, 96, [])),
  (87, (.aload_n 0, 88, 0, [])),
  (88, (.iload_n 1, 89, 0, [])),
  (89, (.iconst 0, 90, 0, [])),
  (90, (.invokevirtual 141, 93, 100, [])),
  (93, (.goto 4, 96, 97, [])),
  (96, (.iconst 0, 97, 0, [])),
  (97, (.istore 5, 99, 0, [])),
  (99, (.iload_n 3, 100, 0, [])),
  (100, (.invokestatic 138, 103, 99, [])),
  (103, (.iconst 1, 104, 0, [])),
  (104, (.if_icmp .le 12, 107, 116, [])),
  (107, (.aload_n 0, 108, 0, [])),
  (108, (.iload_n 1, 109, 0, [])),
  (109, (.iconst 1, 110, 0, [])),
  (110, (.invokevirtual 141, 113, 100, [])),
  (113, (.goto 4, 116, 117, [])),
  (116, (.iconst 0, 117, 0, [])),
  (117, (.istore 6, 119, 0, [])),
  (119, (.iload_n 3, 120, 0, [])),
  (120, (.bipush 45, 122, 0, [])),
  (122, (.if_icmp .ne 23, 125, 145, [])),
  (125, (.iload 5, 127, 0, [])),
  (127, (.ifCond .lt 16, 130, 143, [])),
  (130, (.iload 5, 132, 0, [])),
  (132, (.aload_n 0, 133, 0, [])),
  (133, (.getfield 22, 136, 2004, [])),
  (136, (.iload_n 1, 137, 0, [])),
  (137, (.iaload, 138, 0, [])),
  (138, (.iconst 2, 139, 0, [])),
  (139, (.isub, 140, 0, [])),
  (140, (.if_icmp .le 5, 143, 145, [])),
  (143, (.iconst 2, 144, 0, [])),
  (144, (.ireturn, 145, 0, [])),
  (145, (.iload_n 3, 146, 0, [])),
  (146, (.bipush 9, 148, 0, [])),
  (148, (.if_icmp .eq 9, 151, 157, [])),
  (151, (.iload_n 3, 152, 0, [])),
  (152, (.bipush 10, 154, 0, [])),
  (154, (.if_icmp .ne 10, 157, 164, [])),
  (157, (.iload 5, 159, 0, [])),
  (159, (.ifCond .ne 5, 162, 164, [])),
  (162, (.iconst 4, 163, 0, [])),
  (163, (.ireturn, 164, 0, [])),
  (164, (.iload_n 3, 165, 0, [])),
  (165, (.bipush 20, 167, 0, [])),
  (167, (.bipush 22, 169, 0, [])),
  (169, (.invokestatic 74, 172, 78, [])),
  (172, (.ifCond .ne 9, 175, 181, [])),
  (175, (.iload_n 3, 176, 0, [])),
  (176, (.bipush 28, 178, 0, [])),
  (178, (.if_icmp .ne 15, 181, 193, [])),
  (181, (.iload 4, 183, 0, [])),
  (183, (.iconst 0, 184, 0, [])),
  (184, (.sipush 511, 187, 0, [])),
  (187, (.invokestatic 74, 190, 78, [])),
  (190, (.ifCond .eq 21, 193, 211, [])),
  (193, (.iload_n 3, 194, 0, [])),
  (194, (.bipush 42, 196, 0, [])),
  (196, (.if_icmp .ne 19, 199, 215, [])),
  (199, (.iload 4, 201, 0, [])),
  (201, (.iconst (-1), 202, 0, [])),
  (202, (.sipush 511, 205, 0, [])),
  (205, (.invokestatic 74, 208, 78, [])),
  (208, (.ifCond .ne 7, 211, 215, [])),
  (211, (.iconst 1, 212, 0, [])),
  (212, (.goto 4, 215, 216, [])),
  (215, (.iconst 0, 216, 0, [])),
  (216, (.istore 7, 218, 0, [])),
  (218, (.iload 7, 220, 0, [])),
  (220, (.ifCond .ne 47, 223, 267, [])),
  (223, (.iload_n 3, 224, 0, [])),
  (224, (.bipush 24, 226, 0, [])),
  (226, (.bipush 25, 228, 0, [])),
  (228, (.invokestatic 74, 231, 78, [])),
  (231, (.ifCond .eq 14, 234, 245, [])),
  (234, (.iload 4, 236, 0, [])),
  (236, (.iconst 0, 237, 0, [])),
  (237, (.bipush 63, 239, 0, [])),
  (239, (.invokestatic 74, 242, 78, [])),
  (242, (.ifCond .eq 25, 245, 267, [])),
  (245, (.iload_n 3, 246, 0, [])),
  (246, (.bipush 26, 248, 0, [])),
  (248, (.bipush 27, 250, 0, [])),
  (250, (.invokestatic 74, 253, 78, [])),
  (253, (.ifCond .eq 18, 256, 271, [])),
  (256, (.iload 5, 258, 0, [])),
  (258, (.iconst 0, 259, 0, [])),
  (259, (.bipush 63, 261, 0, [])),
  (261, (.invokestatic 74, 264, 78, [])),
  (264, (.ifCond .ne 7, 267, 271, [])),
  (267, (.iconst 1, 268, 0, [])),
  (268, (.goto 4, 271, 272, [])),
  (271, (.iconst 0, 272, 0, [])),
  (272, (.istore 7, 274, 0, [])),
  (274, (.iload 7, 276, 0, [])),
  (276, (.ifCond .eq 5, 279, 281, [])),
  (279, (.iconst 5, 280, 0, [])),
  (280, (.ireturn, 281, 0, [])),
  (281, (.iload_n 3, 282, 0, [])),
  (282, (.bipush 31, 284, 0, [])),
  (284, (.bipush 34, 286, 0, [])),
  (286, (.invokestatic 74, 289, 78, [])),
  (289, (.ifCond .ne 9, 292, 298, [])),
  (292, (.iload_n 3, 293, 0, [])),
  (293, (.bipush 44, 295, 0, [])),
  (295, (.if_icmp .ne 11, 298, 306, [])),
  (298, (.iload 4, 300, 0, [])),
  (300, (.invokestatic 96, 303, 87, [])),
  (303, (.ifCond .eq 35, 306, 338, [])),
  (306, (.iload_n 3, 307, 0, [])),
  (307, (.bipush 35, 309, 0, [])),
  (309, (.if_icmp .ne 32, 312, 341, [])),
  (312, (.iload 4, 314, 0, [])),
  (314, (.ifCond .lt 24, 317, 338, [])),
  (317, (.iload 4, 319, 0, [])),
  (319, (.bipush 7, 321, 0, [])),
  (321, (.iand, 322, 0, [])),
  (322, (.invokestatic 96, 325, 87, [])),
  (325, (.ifCond .eq 13, 328, 338, [])),
  (328, (.iload 4, 330, 0, [])),
  (330, (.iconst 3, 331, 0, [])),
  (331, (.ishr, 332, 0, [])),
  (332, (.invokestatic 96, 335, 87, [])),
  (335, (.ifCond .ne 6, 338, 341, [])),
  (338, (.bipush 6, 340, 0, [])),
  (340, (.ireturn, 341, 0, [])),
  (341, (.iload_n 3, 342, 0, [])),
  (342, (.bipush 40, 344, 0, [])),
  (344, (.bipush 41, 346, 0, [])),
  (346, (.invokestatic 74, 349, 78, [])),
  (349, (.ifCond .ne 9, 352, 358, [])),
  (352, (.iload_n 3, 353, 0, [])),
  (353, (.bipush 43, 355, 0, [])),
  (355, (.if_icmp .ne 33, 358, 388, [])),
  (358, (.iload 5, 360, 0, [])),
  (360, (.iconst 0, 361, 0, [])),
  (361, (.bipush 11, 363, 0, [])),
  (363, (.invokestatic 74, 366, 78, [])),
  (366, (.ifCond .eq 19, 369, 385, [])),
  (369, (.iload 5, 371, 0, [])),
  (371, (.iload_n 1, 372, 0, [])),
  (372, (.if_icmp .eq 13, 375, 385, [])),
  (375, (.aload_n 0, 376, 0, [])),
  (376, (.getfield 16, 379, 2002, [])),
  (379, (.iload 5, 381, 0, [])),
  (381, (.iaload, 382, 0, [])),
  (382, (.ifCond .ne 6, 385, 388, [])),
  (385, (.bipush 7, 387, 0, [])),
  (387, (.ireturn, 388, 0, [])),
  (388, (.iload_n 3, 389, 0, [])),
  (389, (.bipush 31, 391, 0, [])),
  (391, (.if_icmp .lt 20, 394, 411, [])),
  (394, (.iload_n 3, 395, 0, [])),
  (395, (.bipush 35, 397, 0, [])),
  (397, (.if_icmp .gt 14, 400, 411, [])),
  (400, (.aload_n 0, 401, 0, [])),
  (401, (.iload_n 1, 402, 0, [])),
  (402, (.iload_n 3, 403, 0, [])),
  (403, (.iload 4, 405, 0, [])),
  (405, (.iload 5, 407, 0, [])),
  (407, (.invokevirtual 145, 410, 107, [])),
  (410, (.ireturn, 411, 0, [])),
  (411, (.iload_n 3, 412, 0, [])),
  (412, (.bipush 20, 414, 0, [])),
  (414, (.if_icmp .lt 16, 417, 430, [])),
  (417, (.aload_n 0, 418, 0, [])),
  (418, (.iload_n 1, 419, 0, [])),
  (419, (.iload_n 3, 420, 0, [])),
  (420, (.iload 4, 422, 0, [])),
  (422, (.iload 5, 424, 0, [])),
  (424, (.iload 6, 426, 0, [])),
  (426, (.invokevirtual 149, 429, 109, [])),
  (429, (.ireturn, 430, 0, [])),
  (430, (.aload_n 0, 431, 0, [])),
  (431, (.iload_n 1, 432, 0, [])),
  (432, (.iload_n 3, 433, 0, [])),
  (433, (.iload 4, 435, 0, [])),
  (435, (.iload 5, 437, 0, [])),
  (437, (.iload 6, 439, 0, [])),
  (439, (.invokevirtual 153, 442, 104, [])),
  (442, (.ireturn, 443, 0, []))]
/-- X6_more -/
def fj_c103 : List (Nat × fj_I) := [(0, (.iload_n 0, 1, 0, [])),
  (1, (.iconst 1, 2, 0, [])),
  (2, (.if_icmp .eq 13, 5, 15, [])),
  (5, (.iload_n 0, 6, 0, [])),
  (6, (.iconst 3, 7, 0, [])),
  (7, (.if_icmp .eq 8, 10, 15, [])),
  (10, (.iload_n 0, 11, 0, [])),
  (11, (.iconst 5, 12, 0, [])),
  (12, (.if_icmp .ne 7, 15, 19, [])),
  (15, (.iconst 1, 16, 0, [])),
  (16, (.goto 4, 19, 20, [])),
  (19, (.iconst 0, 20, 0, [])),
  (20, (.ireturn, 21, 0, []))]
/-- X6_workPlain -/
def fj_c104 : List (Nat × fj_I) := [(0, (.aload_n 0, 1, 0, [])),
  (1, (.getfield 22, 4, 2004, [])),
  (4, (.iload_n 1, 5, 0, [])),
  (5, (.iaload, 6, 0, [])),
  (6, (.iload_n 2, 7, 0, [])),
  (7, (.invokestatic 156, 10, 103, [])),
  (10, (.iadd, 11, 0, [])),
  (11, (.bipush 24, 13, 0, [])),
  (13, (.if_icmp .le 5, 16, 18, [])),
  (16, (.iconst 3, 17, 0, [])),
  (17, (.ireturn, 18, 0, [])),
  (18, (.aload_n 0, 19, 0, [])),
  (19, (.getfield 19, 22, 2003, [])),
  (22, (.iload_n 1, 23, 0, [])),
  (23, (.dup2, 24, 0, [])),
  (24, (.iaload, 25, 0, [])),
  (25, (.iconst 1, 26, 0, [])),
  (26, (.iadd, 27, 0, [])),
  (27, (.iastore, 28, 0, [])),
  (28, (.iload_n 2, 29, 0, [])),
  (29, (.tableswitch 193 0 19 #[95, 98, 108, 121, 132, 151, 193, 193, 193, 193, 193, 162, 193, 193, 193, 193, 193, 193, 193, 174], 124, 222, [(0, 124), (1, 127), (2, 137), (3, 150), (4, 161), (5, 180), (6, 222), (7, 222), (8, 222), (9, 222), (10, 222), (11, 191), (12, 222), (13, 222), (14, 222), (15, 222), (16, 222), (17, 222), (18, 222), (19, 203)])),
  (124, (.goto 112, 127, 236, [])),
  (127, (.aload_n 0, 128, 0, [])),
  (128, (.iload_n 1, 129, 0, [])),
  (129, (.iconst 0, 130, 0, [])),
  (130, (.iload_n 3, 131, 0, [])),
  (131, (.invokevirtual 159, 134, 101, [])),
  (134, (.goto 102, 137, 236, [])),
  (137, (.aload_n 0, 138, 0, [])),
  (138, (.getfield 22, 141, 2004, [])),
  (141, (.iload_n 1, 142, 0, [])),
  (142, (.dup2, 143, 0, [])),
  (143, (.iaload, 144, 0, [])),
  (144, (.iconst 1, 145, 0, [])),
  (145, (.isub, 146, 0, [])),
  (146, (.iastore, 147, 0, [])),
  (147, (.goto 89, 150, 236, [])),
  (150, (.aload_n 0, 151, 0, [])),
  (151, (.iload_n 1, 152, 0, [])),
  (152, (.iconst 0, 153, 0, [])),
  (153, (.iload 4, 155, 0, [])),
  (155, (.invokevirtual 159, 158, 101, [])),
  (158, (.goto 78, 161, 236, [])),
  (161, (.aload_n 0, 162, 0, [])),
  (162, (.iload_n 1, 163, 0, [])),
  (163, (.iconst 2, 164, 0, [])),
  (164, (.iload 4, 166, 0, [])),
  (166, (.invokevirtual 159, 169, 101, [])),
  (169, (.aload_n 0, 170, 0, [])),
  (170, (.iload_n 1, 171, 0, [])),
  (171, (.iconst 0, 172, 0, [])),
  (172, (.iload 5, 174, 0, [])),
  (174, (.invokevirtual 159, 177, 101, [])),
  (177, (.goto 59, 180, 236, [])),
  (180, (.aload_n 0, 181, 0, [])),
  (181, (.iload_n 1, 182, 0, [])),
  (182, (.iconst 0, 183, 0, [])),
  (183, (.iload 5, 185, 0, [])),
  (185, (.invokevirtual 159, 188, 101, [])),
  (188, (.goto 48, 191, 236, [])),
  (191, (.aload_n 0, 192, 0, [])),
  (192, (.iload_n 1, 193, 0, [])),
  (193, (.iconst 1, 194, 0, [])),
  (194, (.iload 4, 196, 0, [])),
  (196, (.ineg, 197, 0, [])),
  (197, (.invokevirtual 159, 200, 101, [])),
  (200, (.goto 36, 203, 236, [])),
  (203, (.aload_n 0, 204, 0, [])),
  (204, (.iload_n 1, 205, 0, [])),
  (205, (.iconst 1, 206, 0, [])),
  (206, (.iload 4, 208, 0, [])),
  (208, (.ifCond .ne 7, 211, 215, [])),
  (211, (.iconst 1, 212, 0, [])),
  (212, (.goto 4, 215, 216, [])),
  (215, (.iconst 0, 216, 0, [])),
  (216, (.invokevirtual 159, 219, 101, [])),
  (219, (.goto 17, 222, 236, [])),
  (222, (.aload_n 0, 223, 0, [])),
  (223, (.iload_n 1, 224, 0, [])),
  (224, (.iconst 2, 225, 0, [])),
  (225, (.iload_n 2, 226, 0, [])),
  (226, (.iload 4, 228, 0, [])),
  (228, (.iload 5, 230, 0, [])),
  (230, (.invokestatic 162, 233, 105, [])),
  (233, (.invokevirtual 159, 236, 101, [])),
  (236, (.iconst 0, 237, 0, [])),
  (237, (.ireturn, 238, 0, []))]
/-- X6_reckoned -/
def fj_c105 : List (Nat × fj_I) := [(0, (.iload_n 0, 1, 0, [])),
  (1, (.tableswitch 139 6 17 #[63, 67, 71, 75, 89, 139, 102, 106, 110, 114, 121, 128], 64, 140, [(6, 64), (7, 68), (8, 72), (9, 76), (10, 90), (11, 140), (12, 103), (13, 107), (14, 111), (15, 115), (16, 122), (17, 129)])),
  (64, (.iload_n 2, 65, 0, [])),
  (65, (.iload_n 1, 66, 0, [])),
  (66, (.iadd, 67, 0, [])),
  (67, (.ireturn, 68, 0, [])),
  (68, (.iload_n 2, 69, 0, [])),
  (69, (.iload_n 1, 70, 0, [])),
  (70, (.isub, 71, 0, [])),
  (71, (.ireturn, 72, 0, [])),
  (72, (.iload_n 2, 73, 0, [])),
  (73, (.iload_n 1, 74, 0, [])),
  (74, (.imul, 75, 0, [])),
  (75, (.ireturn, 76, 0, [])),
  (76, (.iload_n 1, 77, 0, [])),
  (77, (.iconst (-1), 78, 0, [])),
  (78, (.if_icmp .ne 8, 81, 86, [])),
  (81, (.iload_n 2, 82, 0, [])),
  (82, (.ineg, 83, 0, [])),
  (83, (.goto 6, 86, 89, [])),
  (86, (.iload_n 2, 87, 0, [])),
  (87, (.iload_n 1, 88, 0, [])),
  (88, (.idiv, 89, 0, [])),
  (89, (.ireturn, 90, 0, [])),
  (90, (.iload_n 1, 91, 0, [])),
  (91, (.iconst (-1), 92, 0, [])),
  (92, (.if_icmp .ne 7, 95, 99, [])),
  (95, (.iconst 0, 96, 0, [])),
  (96, (.goto 6, 99, 102, [])),
  (99, (.iload_n 2, 100, 0, [])),
  (100, (.iload_n 1, 101, 0, [])),
  (101, (.irem, 102, 0, [])),
  (102, (.ireturn, 103, 0, [])),
  (103, (.iload_n 2, 104, 0, [])),
  (104, (.iload_n 1, 105, 0, [])),
  (105, (.iand, 106, 0, [])),
  (106, (.ireturn, 107, 0, [])),
  (107, (.iload_n 2, 108, 0, [])),
  (108, (.iload_n 1, 109, 0, [])),
  (109, (.ior, 110, 0, [])),
  (110, (.ireturn, 111, 0, [])),
  (111, (.iload_n 2, 112, 0, [])),
  (112, (.iload_n 1, 113, 0, [])),
  (113, (.ixor, 114, 0, [])),
  (114, (.ireturn, 115, 0, [])),
  (115, (.iload_n 2, 116, 0, [])),
  (116, (.iload_n 1, 117, 0, [])),
  (117, (.bipush 31, 119, 0, [])),
  (119, (.iand, 120, 0, [])),
  (120, (.ishl, 121, 0, [])),
  (121, (.ireturn, 122, 0, [])),
  (122, (.iload_n 2, 123, 0, [])),
  (123, (.iload_n 1, 124, 0, [])),
  (124, (.bipush 31, 126, 0, [])),
  (126, (.iand, 127, 0, [])),
  (127, (.ishr, 128, 0, [])),
  (128, (.ireturn, 129, 0, [])),
  (129, (.iload_n 2, 130, 0, [])),
  (130, (.iload_n 1, 131, 0, [])),
  (131, (.if_icmp .ge 7, 134, 138, [])),
  (134, (.iconst 1, 135, 0, [])),
  (135, (.goto 4, 138, 139, [])),
  (138, (.iconst 0, 139, 0, [])),
  (139, (.ireturn, 140, 0, [])),
  (140, (.iload_n 2, 141, 0, [])),
  (141, (.iload_n 1, 142, 0, [])),
  (142, (.if_icmp .ne 7, 145, 149, [])),
  (145, (.iconst 1, 146, 0, [])),
  (146, (.goto 4, 149, 150, [])),
  (149, (.iconst 0, 150, 0, [])),
  (150, (.ireturn, 151, 0, []))]
/-- X6_waits -/
def fj_c106 : List (Nat × fj_I) := [(0, (.aload_n 0, 1, 0, [])),
  (1, (.getfield 16, 4, 2002, [])),
  (4, (.iload_n 1, 5, 0, [])),
  (5, (.iload_n 2, 6, 0, [])),
  (6, (.iastore, 7, 0, [])),
  (7, (.aload_n 0, 8, 0, [])),
  (8, (.getfield 46, 11, 2012, [])),
  (11, (.iload_n 1, 12, 0, [])),
  (12, (.iload_n 3, 13, 0, [])),
  (13, (.iastore, 14, 0, [])),
  (14, (.aload_n 0, 15, 0, [])),
  (15, (.getfield 49, 18, 2013, [])),
  (18, (.iload_n 1, 19, 0, [])),
  (19, (.iload 4, 21, 0, [])),
  (21, (.iastore, 22, 0, [])),
  (22, (.iconst 0, 23, 0, [])),
  (23, (.ireturn, 24, 0, []))]
/-- X6_workChannel -/
def fj_c107 : List (Nat × fj_I) := [(0, (.iload_n 2, 1, 0, [])),
  (1, (.bipush 31, 3, 0, [])),
  (3, (.if_icmp .ne 56, 6, 59, [])),
  (6, (.aload_n 0, 7, 0, [])),
  (7, (.getfield 55, 10, 2015, [])),
  (10, (.iload_n 3, 11, 0, [])),
  (11, (.iaload, 12, 0, [])),
  (12, (.aload_n 0, 13, 0, [])),
  (13, (.getfield 52, 16, 2014, [])),
  (16, (.iload_n 3, 17, 0, [])),
  (17, (.iaload, 18, 0, [])),
  (18, (.if_icmp .ne 12, 21, 30, [])),
  (21, (.aload_n 0, 22, 0, [])),
  (22, (.iload_n 1, 23, 0, [])),
  (23, (.iconst 2, 24, 0, [])),
  (24, (.iload_n 3, 25, 0, [])),
  (25, (.iload_n 3, 26, 0, [])),
  (26, (.invokevirtual 166, 29, 106, [])),
  (29, (.ireturn, 30, 0, [])),
  (30, (.aload_n 0, 31, 0, [])),
  (31, (.getfield 22, 34, 2004, [])),
  (34, (.iload_n 1, 35, 0, [])),
  (35, (.dup2, 36, 0, [])),
  (36, (.iaload, 37, 0, [])),
  (37, (.iconst 1, 38, 0, [])),
  (38, (.isub, 39, 0, [])),
  (39, (.iastore, 40, 0, [])),
  (40, (.aload_n 0, 41, 0, [])),
  (41, (.iload_n 3, 42, 0, [])),
  (42, (.iload 4, 44, 0, [])),
  (44, (.invokevirtual 99, 47, 89, [])),
  (47, (.aload_n 0, 48, 0, [])),
  (48, (.getfield 19, 51, 2003, [])),
  (51, (.iload_n 1, 52, 0, [])),
  (52, (.dup2, 53, 0, [])),
  (53, (.iaload, 54, 0, [])),
  (54, (.iconst 1, 55, 0, [])),
  (55, (.iadd, 56, 0, [])),
  (56, (.iastore, 57, 0, [])),
  (57, (.iconst 0, 58, 0, [])),
  (58, (.ireturn, 59, 0, [])),
  (59, (.iload_n 2, 60, 0, [])),
  (60, (.bipush 33, 62, 0, [])),
  (62, (.if_icmp .ne 65, 65, 127, [])),
  (65, (.aload_n 0, 66, 0, [])),
  (66, (.getfield 55, 69, 2015, [])),
  (69, (.iload_n 3, 70, 0, [])),
  (70, (.iaload, 71, 0, [])),
  (71, (.aload_n 0, 72, 0, [])),
  (72, (.getfield 52, 75, 2014, [])),
  (75, (.iload_n 3, 76, 0, [])),
  (76, (.iaload, 77, 0, [])),
  (77, (.if_icmp .ne 7, 80, 84, [])),
  (80, (.iconst 1, 81, 0, [])),
  (81, (.goto 4, 84, 85, [])),
  (84, (.iconst 0, 85, 0, [])),
  (85, (.istore 5, 87, 0, [])),
  (87, (.iload 5, 89, 0, [])),
  (89, (.ifCond .ne 10, 92, 99, [])),
  (92, (.aload_n 0, 93, 0, [])),
  (93, (.iload_n 3, 94, 0, [])),
  (94, (.iload 4, 96, 0, [])),
  (96, (.invokevirtual 99, 99, 89, [])),
  (99, (.aload_n 0, 100, 0, [])),
  (100, (.iload_n 1, 101, 0, [])),
  (101, (.iconst 1, 102, 0, [])),
  (102, (.iload 5, 104, 0, [])),
  (104, (.ifCond .eq 7, 107, 111, [])),
  (107, (.iconst 0, 108, 0, [])),
  (108, (.goto 4, 111, 112, [])),
  (111, (.iconst 1, 112, 0, [])),
  (112, (.invokevirtual 159, 115, 101, [])),
  (115, (.aload_n 0, 116, 0, [])),
  (116, (.getfield 19, 119, 2003, [])),
  (119, (.iload_n 1, 120, 0, [])),
  (120, (.dup2, 121, 0, [])),
  (121, (.iaload, 122, 0, [])),
  (122, (.iconst 1, 123, 0, [])),
  (123, (.iadd, 124, 0, [])),
  (124, (.iastore, 125, 0, [])),
  (125, (.iconst 0, 126, 0, [])),
  (126, (.ireturn, 127, 0, [])),
  (127, (.iload_n 2, 128, 0, [])),
  (128, (.bipush 35, 130, 0, [])),
  (130, (.if_icmp .ne 10, 133, 140, [])),
  (133, (.iload_n 3, 134, 0, [])),
  (134, (.bipush 7, 136, 0, [])),
  (136, (.iand, 137, 0, [])),
  (137, (.goto 4, 140, 141, [])),
  (140, (.iload_n 3, 141, 0, [])),
  (141, (.istore 5, 143, 0, [])),
  (143, (.iload_n 2, 144, 0, [])),
  (144, (.bipush 35, 146, 0, [])),
  (146, (.if_icmp .ne 9, 149, 155, [])),
  (149, (.iload_n 3, 150, 0, [])),
  (150, (.iconst 3, 151, 0, [])),
  (151, (.ishr, 152, 0, [])),
  (152, (.goto 4, 155, 156, [])),
  (155, (.iload_n 3, 156, 0, [])),
  (156, (.istore 6, 158, 0, [])),
  (158, (.aload_n 0, 159, 0, [])),
  (159, (.getfield 55, 162, 2015, [])),
  (162, (.iload 5, 164, 0, [])),
  (164, (.iaload, 165, 0, [])),
  (165, (.ifCond .le 8, 168, 173, [])),
  (168, (.iload 5, 170, 0, [])),
  (170, (.goto 5, 173, 175, [])),
  (173, (.iload 6, 175, 0, [])),
  (175, (.istore 7, 177, 0, [])),
  (177, (.aload_n 0, 178, 0, [])),
  (178, (.getfield 55, 181, 2015, [])),
  (181, (.iload 7, 183, 0, [])),
  (183, (.iaload, 184, 0, [])),
  (184, (.ifCond .ne 7, 187, 191, [])),
  (187, (.iconst 1, 188, 0, [])),
  (188, (.goto 4, 191, 192, [])),
  (191, (.iconst 0, 192, 0, [])),
  (192, (.istore 8, 194, 0, [])),
  (194, (.iload 8, 196, 0, [])),
  (196, (.ifCond .eq 30, 199, 226, [])),
  (199, (.iload_n 2, 200, 0, [])),
  (200, (.bipush 34, 202, 0, [])),
  (202, (.if_icmp .eq 24, 205, 226, [])),
  (205, (.aload_n 0, 206, 0, [])),
  (206, (.iload_n 1, 207, 0, [])),
  (207, (.iload_n 2, 208, 0, [])),
  (208, (.bipush 32, 210, 0, [])),
  (210, (.if_icmp .ne 7, 213, 217, [])),
  (213, (.iconst 3, 214, 0, [])),
  (214, (.goto 4, 217, 218, [])),
  (217, (.iconst 4, 218, 0, [])),
  (218, (.iload 5, 220, 0, [])),
  (220, (.iload 6, 222, 0, [])),
  (222, (.invokevirtual 166, 225, 106, [])),
  (225, (.ireturn, 226, 0, [])),
  (226, (.iload_n 2, 227, 0, [])),
  (227, (.bipush 32, 229, 0, [])),
  (229, (.if_icmp .eq 8, 232, 237, [])),
  (232, (.iload 8, 234, 0, [])),
  (234, (.ifCond .eq 7, 237, 241, [])),
  (237, (.iconst 1, 238, 0, [])),
  (238, (.goto 4, 241, 242, [])),
  (241, (.iconst 2, 242, 0, [])),
  (242, (.istore 9, 244, 0, [])),
  (244, (.aload_n 0, 245, 0, [])),
  (245, (.getfield 22, 248, 2004, [])),
  (248, (.iload_n 1, 249, 0, [])),
  (249, (.iaload, 250, 0, [])),
  (250, (.iload 9, 252, 0, [])),
  (252, (.iadd, 253, 0, [])),
  (253, (.bipush 24, 255, 0, [])),
  (255, (.if_icmp .le 5, 258, 260, [])),
  (258, (.iconst 3, 259, 0, [])),
  (259, (.ireturn, 260, 0, [])),
  (260, (.aload_n 0, 261, 0, [])),
  (261, (.getfield 19, 264, 2003, [])),
  (264, (.iload_n 1, 265, 0, [])),
  (265, (.dup2, 266, 0, [])),
  (266, (.iaload, 267, 0, [])),
  (267, (.iconst 1, 268, 0, [])),
  (268, (.iadd, 269, 0, [])),
  (269, (.iastore, 270, 0, [])),
  (270, (.iload 8, 272, 0, [])),
  (272, (.ifCond .ne 15, 275, 287, [])),
  (275, (.aload_n 0, 276, 0, [])),
  (276, (.iload_n 1, 277, 0, [])),
  (277, (.iconst 0, 278, 0, [])),
  (278, (.aload_n 0, 279, 0, [])),
  (279, (.iload 7, 281, 0, [])),
  (281, (.invokevirtual 103, 284, 90, [])),
  (284, (.invokevirtual 159, 287, 101, [])),
  (287, (.iload_n 2, 288, 0, [])),
  (288, (.bipush 32, 290, 0, [])),
  (290, (.if_icmp .eq 35, 293, 325, [])),
  (293, (.aload_n 0, 294, 0, [])),
  (294, (.iload_n 1, 295, 0, [])),
  (295, (.iconst 0, 296, 0, [])),
  (296, (.iload_n 2, 297, 0, [])),
  (297, (.bipush 34, 299, 0, [])),
  (299, (.if_icmp .ne 16, 302, 315, [])),
  (302, (.iload 8, 304, 0, [])),
  (304, (.ifCond .eq 7, 307, 311, [])),
  (307, (.iconst 0, 308, 0, [])),
  (308, (.goto 14, 311, 322, [])),
  (311, (.iconst 1, 312, 0, [])),
  (312, (.goto 10, 315, 322, [])),
  (315, (.iload 5, 317, 0, [])),
  (317, (.iload 7, 319, 0, [])),
  (319, (.invokestatic 169, 322, 108, [])),
  (322, (.invokevirtual 159, 325, 101, [])),
  (325, (.iconst 0, 326, 0, [])),
  (326, (.ireturn, 327, 0, []))]
/-- X6_whichOf -/
def fj_c108 : List (Nat × fj_I) := [(0, (.iload_n 0, 1, 0, [])),
  (1, (.iload_n 1, 2, 0, [])),
  (2, (.if_icmp .ne 7, 5, 9, [])),
  (5, (.iconst 0, 6, 0, [])),
  (6, (.goto 4, 9, 10, [])),
  (9, (.iconst 1, 10, 0, [])),
  (10, (.ireturn, 11, 0, []))]
/-- X6_workOther -/
def fj_c109 : List (Nat × fj_I) := [(0, (.iload_n 2, 1, 0, [])),
  (1, (.bipush 24, 3, 0, [])),
  (3, (.if_icmp .eq 21, 6, 24, [])),
  (6, (.iload_n 2, 7, 0, [])),
  (7, (.bipush 37, 9, 0, [])),
  (9, (.if_icmp .eq 15, 12, 24, [])),
  (12, (.iload_n 2, 13, 0, [])),
  (13, (.bipush 38, 15, 0, [])),
  (15, (.if_icmp .eq 9, 18, 24, [])),
  (18, (.iload_n 2, 19, 0, [])),
  (19, (.bipush 44, 21, 0, [])),
  (21, (.if_icmp .ne 7, 24, 28, [])),
  (24, (.iconst 1, 25, 0, [])),
  (25, (.goto 4, 28, 29, [])),
  (28, (.iconst 0, 29, 0, [])),
  (29, (.istore 6, 31, 0, [])),
  (31, (.iload 6, 33, 0, [])),
  (33, (.ifCond .eq 14, 36, 47, [])),
  (36, (.aload_n 0, 37, 0, [])),
  (37, (.getfield 22, 40, 2004, [])),
  (40, (.iload_n 1, 41, 0, [])),
  (41, (.iaload, 42, 0, [])),
  (42, (.bipush 24, 44, 0, [])),
  (44, (.if_icmp .eq 20, 47, 64, [])),
  (47, (.iload_n 2, 48, 0, [])),
  (48, (.bipush 22, 50, 0, [])),
  (50, (.if_icmp .ne 16, 53, 66, [])),
  (53, (.aload_n 0, 54, 0, [])),
  (54, (.getfield 28, 57, 2006, [])),
  (57, (.iload_n 1, 58, 0, [])),
  (58, (.iaload, 59, 0, [])),
  (59, (.bipush 12, 61, 0, [])),
  (61, (.if_icmp .ne 5, 64, 66, [])),
  (64, (.iconst 3, 65, 0, [])),
  (65, (.ireturn, 66, 0, [])),
  (66, (.iload_n 2, 67, 0, [])),
  (67, (.bipush 43, 69, 0, [])),
  (69, (.if_icmp .ne 18, 72, 87, [])),
  (72, (.aload_n 0, 73, 0, [])),
  (73, (.getfield 16, 76, 2002, [])),
  (76, (.iload 4, 78, 0, [])),
  (78, (.iaload, 79, 0, [])),
  (79, (.bipush 8, 81, 0, [])),
  (81, (.if_icmp .ne 6, 84, 87, [])),
  (84, (.bipush 8, 86, 0, [])),
  (86, (.ireturn, 87, 0, [])),
  (87, (.iload_n 2, 88, 0, [])),
  (88, (.bipush 41, 90, 0, [])),
  (90, (.if_icmp .ne 24, 93, 114, [])),
  (93, (.aload_n 0, 94, 0, [])),
  (94, (.iload 4, 96, 0, [])),
  (96, (.invokevirtual 78, 99, 82, [])),
  (99, (.ifCond .eq 15, 102, 114, [])),
  (102, (.aload_n 0, 103, 0, [])),
  (103, (.iload_n 1, 104, 0, [])),
  (104, (.bipush 6, 106, 0, [])),
  (106, (.iload 4, 108, 0, [])),
  (108, (.iload 4, 110, 0, [])),
  (110, (.invokevirtual 166, 113, 106, [])),
  (113, (.ireturn, 114, 0, [])),
  (114, (.aload_n 0, 115, 0, [])),
  (115, (.getfield 19, 118, 2003, [])),
  (118, (.iload_n 1, 119, 0, [])),
  (119, (.dup2, 120, 0, [])),
  (120, (.iaload, 121, 0, [])),
  (121, (.iconst 1, 122, 0, [])),
  (122, (.iadd, 123, 0, [])),
  (123, (.iastore, 124, 0, [])),
  (124, (.aload_n 0, 125, 0, [])),
  (125, (.getfield 22, 128, 2004, [])),
  (128, (.iload_n 1, 129, 0, [])),
  (129, (.dup2, 130, 0, [])),
  (130, (.iaload, 131, 0, [])),
  (131, (.iload_n 2, 132, 0, [])),
  (132, (.invokestatic 138, 135, 99, [])),
  (135, (.isub, 136, 0, [])),
  (136, (.iastore, 137, 0, [])),
  (137, (.iload_n 2, 138, 0, [])),
  (138, (.bipush 24, 140, 0, [])),
  (140, (.if_icmp .ge 15, 143, 155, [])),
  (143, (.aload_n 0, 144, 0, [])),
  (144, (.iload_n 1, 145, 0, [])),
  (145, (.iload_n 2, 146, 0, [])),
  (146, (.iload_n 3, 147, 0, [])),
  (147, (.iload 4, 149, 0, [])),
  (149, (.invokevirtual 172, 152, 110, [])),
  (152, (.goto 32, 155, 184, [])),
  (155, (.iload_n 2, 156, 0, [])),
  (156, (.bipush 30, 158, 0, [])),
  (158, (.if_icmp .ge 17, 161, 175, [])),
  (161, (.aload_n 0, 162, 0, [])),
  (162, (.iload_n 1, 163, 0, [])),
  (163, (.iload_n 2, 164, 0, [])),
  (164, (.iload_n 3, 165, 0, [])),
  (165, (.iload 4, 167, 0, [])),
  (167, (.iload 5, 169, 0, [])),
  (169, (.invokevirtual 176, 172, 111, [])),
  (172, (.goto 12, 175, 184, [])),
  (175, (.aload_n 0, 176, 0, [])),
  (176, (.iload_n 1, 177, 0, [])),
  (177, (.iload_n 2, 178, 0, [])),
  (178, (.iload_n 3, 179, 0, [])),
  (179, (.iload 4, 181, 0, [])),
  (181, (.invokevirtual 180, 184, 112, [])),
  (184, (.iconst 0, 185, 0, [])),
  (185, (.ireturn, 186, 0, []))]
/-- X6_jump -/
def fj_c110 : List (Nat × fj_I) := [(0, (.iload_n 2, 1, 0, [])),
  (1, (.bipush 23, 3, 0, [])),
  (3, (.if_icmp .ne 36, 6, 39, [])),
  (6, (.aload_n 0, 7, 0, [])),
  (7, (.getfield 28, 10, 2006, [])),
  (10, (.iload_n 1, 11, 0, [])),
  (11, (.dup2, 12, 0, [])),
  (12, (.iaload, 13, 0, [])),
  (13, (.iconst 1, 14, 0, [])),
  (14, (.isub, 15, 0, [])),
  (15, (.iastore, 16, 0, [])),
  (16, (.aload_n 0, 17, 0, [])),
  (17, (.getfield 19, 20, 2003, [])),
  (20, (.iload_n 1, 21, 0, [])),
  (21, (.aload_n 0, 22, 0, [])),
  (22, (.getfield 31, 25, 2007, [])),
  (25, (.bipush 12, 27, 0, [])),
  (27, (.iload_n 1, 28, 0, [])),
  (28, (.imul, 29, 0, [])),
  (29, (.aload_n 0, 30, 0, [])),
  (30, (.getfield 28, 33, 2006, [])),
  (33, (.iload_n 1, 34, 0, [])),
  (34, (.iaload, 35, 0, [])),
  (35, (.iadd, 36, 0, [])),
  (36, (.iaload, 37, 0, [])),
  (37, (.iastore, 38, 0, [])),
  (38, (.return_, 39, 0, [])),
  (39, (.iload_n 2, 40, 0, [])),
  (40, (.bipush 22, 42, 0, [])),
  (42, (.if_icmp .ne 35, 45, 77, [])),
  (45, (.aload_n 0, 46, 0, [])),
  (46, (.getfield 31, 49, 2007, [])),
  (49, (.bipush 12, 51, 0, [])),
  (51, (.iload_n 1, 52, 0, [])),
  (52, (.imul, 53, 0, [])),
  (53, (.aload_n 0, 54, 0, [])),
  (54, (.getfield 28, 57, 2006, [])),
  (57, (.iload_n 1, 58, 0, [])),
  (58, (.iaload, 59, 0, [])),
  (59, (.iadd, 60, 0, [])),
  (60, (.aload_n 0, 61, 0, [])),
  (61, (.getfield 19, 64, 2003, [])),
  (64, (.iload_n 1, 65, 0, [])),
  (65, (.iaload, 66, 0, [])),
  (66, (.iastore, 67, 0, [])),
  (67, (.aload_n 0, 68, 0, [])),
  (68, (.getfield 28, 71, 2006, [])),
  (71, (.iload_n 1, 72, 0, [])),
  (72, (.dup2, 73, 0, [])),
  (73, (.iaload, 74, 0, [])),
  (74, (.iconst 1, 75, 0, [])),
  (75, (.iadd, 76, 0, [])),
  (76, (.iastore, 77, 0, [])),
  (77, (.aload_n 0, 78, 0, [])),
  (78, (.getfield 19, 81, 2003, [])),
  (81, (.iload_n 1, 82, 0, [])),
  (82, (.iload_n 2, 83, 0, [])),
  (83, (.bipush 21, 85, 0, [])),
  (85, (.if_icmp .ne 17, 88, 102, [])),
  (88, (.iload 4, 90, 0, [])),
  (90, (.ifCond .eq 12, 93, 102, [])),
  (93, (.aload_n 0, 94, 0, [])),
  (94, (.getfield 19, 97, 2003, [])),
  (97, (.iload_n 1, 98, 0, [])),
  (98, (.iaload, 99, 0, [])),
  (99, (.goto 4, 102, 103, [])),
  (102, (.iload_n 3, 103, 0, [])),
  (103, (.iastore, 104, 0, [])),
  (104, (.return_, 105, 0, []))]
/-- X6_inMemory -/
def fj_c111 : List (Nat × fj_I) := [(0, (.iload_n 2, 1, 0, [])),
  (1, (.tableswitch 120 24 28 #[35, 50, 61, 77, 89], 36, 121, [(24, 36), (25, 51), (26, 62), (27, 78), (28, 90)])),
  (36, (.aload_n 0, 37, 0, [])),
  (37, (.iload_n 1, 38, 0, [])),
  (38, (.iconst 0, 39, 0, [])),
  (39, (.aload_n 0, 40, 0, [])),
  (40, (.getfield 13, 43, 2001, [])),
  (43, (.iload_n 3, 44, 0, [])),
  (44, (.iaload, 45, 0, [])),
  (45, (.invokevirtual 159, 48, 101, [])),
  (48, (.goto 78, 51, 126, [])),
  (51, (.aload_n 0, 52, 0, [])),
  (52, (.getfield 13, 55, 2001, [])),
  (55, (.iload_n 3, 56, 0, [])),
  (56, (.iload 4, 58, 0, [])),
  (58, (.iastore, 59, 0, [])),
  (59, (.goto 67, 62, 126, [])),
  (62, (.aload_n 0, 63, 0, [])),
  (63, (.iload_n 1, 64, 0, [])),
  (64, (.iconst 0, 65, 0, [])),
  (65, (.aload_n 0, 66, 0, [])),
  (66, (.getfield 13, 69, 2001, [])),
  (69, (.iload 4, 71, 0, [])),
  (71, (.iaload, 72, 0, [])),
  (72, (.invokevirtual 159, 75, 101, [])),
  (75, (.goto 51, 78, 126, [])),
  (78, (.aload_n 0, 79, 0, [])),
  (79, (.getfield 13, 82, 2001, [])),
  (82, (.iload 4, 84, 0, [])),
  (84, (.iload 5, 86, 0, [])),
  (86, (.iastore, 87, 0, [])),
  (87, (.goto 39, 90, 126, [])),
  (90, (.aload_n 0, 91, 0, [])),
  (91, (.invokevirtual 85, 94, 83, [])),
  (94, (.istore 6, 96, 0, [])),
  (96, (.iload 6, 98, 0, [])),
  (98, (.ifCond .lt 12, 101, 110, [])),
  (101, (.aload_n 0, 102, 0, [])),
  (102, (.iload 6, 104, 0, [])),
  (104, (.iload_n 3, 105, 0, [])),
  (105, (.iload 4, 107, 0, [])),
  (107, (.invokevirtual 89, 110, 84, [])),
  (110, (.aload_n 0, 111, 0, [])),
  (111, (.iload_n 1, 112, 0, [])),
  (112, (.iconst 0, 113, 0, [])),
  (113, (.iload 6, 115, 0, [])),
  (115, (.invokevirtual 159, 118, 101, [])),
  (118, (.goto 8, 121, 126, [])),
  (121, (.aload_n 0, 122, 0, [])),
  (122, (.iconst 0, 123, 0, [])),
  (123, (.putfield 123, 126, 2021, [])),
  (126, (.return_, 127, 0, []))]
/-- X6_act -/
def fj_c112 : List (Nat × fj_I) := [(0, (.iload_n 2, 1, 0, [])),
  (1, (.tableswitch 271 30 44 #[75, 271, 271, 271, 271, 271, 94, 136, 146, 159, 193, 214, 230, 240, 256], 76, 272, [(30, 76), (31, 272), (32, 272), (33, 272), (34, 272), (35, 272), (36, 95), (37, 137), (38, 147), (39, 160), (40, 194), (41, 215), (42, 231), (43, 241), (44, 257)])),
  (76, (.aload_n 0, 77, 0, [])),
  (77, (.getfield 16, 80, 2002, [])),
  (80, (.iload_n 1, 81, 0, [])),
  (81, (.bipush 7, 83, 0, [])),
  (83, (.iastore, 84, 0, [])),
  (84, (.aload_n 0, 85, 0, [])),
  (85, (.getfield 43, 88, 2011, [])),
  (88, (.iload_n 1, 89, 0, [])),
  (89, (.iload 4, 91, 0, [])),
  (91, (.iastore, 92, 0, [])),
  (92, (.goto 193, 95, 285, [])),
  (95, (.iload 4, 97, 0, [])),
  (97, (.ifCond .le 188, 100, 285, [])),
  (100, (.aload_n 0, 101, 0, [])),
  (101, (.getfield 16, 104, 2002, [])),
  (104, (.iload_n 1, 105, 0, [])),
  (105, (.iconst 5, 106, 0, [])),
  (106, (.iastore, 107, 0, [])),
  (107, (.aload_n 0, 108, 0, [])),
  (108, (.getfield 40, 111, 2010, [])),
  (111, (.iload_n 1, 112, 0, [])),
  (112, (.aload_n 0, 113, 0, [])),
  (113, (.getfield 120, 116, 2019, [])),
  (116, (.iconst 1, 117, 0, [])),
  (117, (.iadd, 118, 0, [])),
  (118, (.iload 4, 120, 0, [])),
  (120, (.ldc 183, 122, 0, [(1000000, 0)])),
  (122, (.if_icmp .ge 8, 125, 130, [])),
  (125, (.iload 4, 127, 0, [])),
  (127, (.goto 5, 130, 132, [])),
  (130, (.ldc 183, 132, 0, [(1000000, 0)])),
  (132, (.iadd, 133, 0, [])),
  (133, (.iastore, 134, 0, [])),
  (134, (.goto 151, 137, 285, [])),
  (137, (.aload_n 0, 138, 0, [])),
  (138, (.iload_n 1, 139, 0, [])),
  (139, (.iconst 0, 140, 0, [])),
  (140, (.iload_n 1, 141, 0, [])),
  (141, (.invokevirtual 159, 144, 101, [])),
  (144, (.goto 141, 147, 285, [])),
  (147, (.aload_n 0, 148, 0, [])),
  (148, (.iload_n 1, 149, 0, [])),
  (149, (.iconst 0, 150, 0, [])),
  (150, (.aload_n 0, 151, 0, [])),
  (151, (.getfield 120, 154, 2019, [])),
  (154, (.invokevirtual 159, 157, 101, [])),
  (157, (.goto 128, 160, 285, [])),
  (160, (.aload_n 0, 161, 0, [])),
  (161, (.getfield 184, 164, 2018, [])),
  (164, (.sipush 300, 167, 0, [])),
  (167, (.if_icmp .ge 14, 170, 181, [])),
  (170, (.aload_n 0, 171, 0, [])),
  (171, (.getfield 61, 174, 2017, [])),
  (174, (.aload_n 0, 175, 0, [])),
  (175, (.getfield 184, 178, 2018, [])),
  (178, (.iload 4, 180, 0, [])),
  (180, (.iastore, 181, 0, [])),
  (181, (.aload_n 0, 182, 0, [])),
  (182, (.dup, 183, 0, [])),
  (183, (.getfield 184, 186, 2018, [])),
  (186, (.iconst 1, 187, 0, [])),
  (187, (.iadd, 188, 0, [])),
  (188, (.putfield 184, 191, 2018, [])),
  (191, (.goto 94, 194, 285, [])),
  (194, (.aload_n 0, 195, 0, [])),
  (195, (.iload 4, 197, 0, [])),
  (197, (.invokevirtual 78, 200, 82, [])),
  (200, (.ifCond .eq 85, 203, 285, [])),
  (203, (.aload_n 0, 204, 0, [])),
  (204, (.iload 4, 206, 0, [])),
  (206, (.bipush 9, 208, 0, [])),
  (208, (.iconst 0, 209, 0, [])),
  (209, (.invokevirtual 113, 212, 94, [])),
  (212, (.goto 73, 215, 285, [])),
  (215, (.aload_n 0, 216, 0, [])),
  (216, (.iload_n 1, 217, 0, [])),
  (217, (.iconst 0, 218, 0, [])),
  (218, (.aload_n 0, 219, 0, [])),
  (219, (.getfield 43, 222, 2011, [])),
  (222, (.iload 4, 224, 0, [])),
  (224, (.iaload, 225, 0, [])),
  (225, (.invokevirtual 159, 228, 101, [])),
  (228, (.goto 57, 231, 285, [])),
  (231, (.aload_n 0, 232, 0, [])),
  (232, (.getfield 34, 235, 2008, [])),
  (235, (.iload_n 1, 236, 0, [])),
  (236, (.iload_n 3, 237, 0, [])),
  (237, (.iastore, 238, 0, [])),
  (238, (.goto 47, 241, 285, [])),
  (241, (.aload_n 0, 242, 0, [])),
  (242, (.getfield 37, 245, 2009, [])),
  (245, (.iload_n 1, 246, 0, [])),
  (246, (.dup2, 247, 0, [])),
  (247, (.iaload, 248, 0, [])),
  (248, (.iconst 1, 249, 0, [])),
  (249, (.iload 4, 251, 0, [])),
  (251, (.ishl, 252, 0, [])),
  (252, (.ior, 253, 0, [])),
  (253, (.iastore, 254, 0, [])),
  (254, (.goto 31, 257, 285, [])),
  (257, (.aload_n 0, 258, 0, [])),
  (258, (.iload_n 1, 259, 0, [])),
  (259, (.iconst 0, 260, 0, [])),
  (260, (.aload_n 0, 261, 0, [])),
  (261, (.getfield 55, 264, 2015, [])),
  (264, (.iload_n 3, 265, 0, [])),
  (265, (.iaload, 266, 0, [])),
  (266, (.invokevirtual 159, 269, 101, [])),
  (269, (.goto 16, 272, 285, [])),
  (272, (.aload_n 0, 273, 0, [])),
  (273, (.iload_n 1, 274, 0, [])),
  (274, (.iconst 0, 275, 0, [])),
  (275, (.aload_n 0, 276, 0, [])),
  (276, (.iload_n 1, 277, 0, [])),
  (277, (.iload 4, 279, 0, [])),
  (279, (.invokevirtual 141, 282, 100, [])),
  (282, (.invokevirtual 159, 285, 101, [])),
  (285, (.return_, 286, 0, []))]
/-- X6_latest -/
def fj_c113 : List (Nat × fj_I) := [(0, (.aload_n 0, 1, 0, [])),
  (1, (.getfield 71, 4, 2023, [])),
  (4, (.ireturn, 5, 0, []))]
/-- X6_isTask -/
def fj_c114 : List (Nat × fj_I) := [(0, (.iload_n 0, 1, 0, [])),
  (1, (.iconst 0, 2, 0, [])),
  (2, (.bipush 11, 4, 0, [])),
  (4, (.invokestatic 74, 7, 78, [])),
  (7, (.ireturn, 8, 0, []))]
/-- X6_state -/
def fj_c115 : List (Nat × fj_I) := [(0, (.iload_n 1, 1, 0, [])),
  (1, (.invokestatic 187, 4, 114, [])),
  (4, (.ifCond .eq 12, 7, 16, [])),
  (7, (.aload_n 0, 8, 0, [])),
  (8, (.getfield 16, 11, 2002, [])),
  (11, (.iload_n 1, 12, 0, [])),
  (12, (.iaload, 13, 0, [])),
  (13, (.goto 4, 16, 17, [])),
  (16, (.iconst (-1), 17, 0, [])),
  (17, (.ireturn, 18, 0, []))]
/-- X6_about -/
def fj_c116 : List (Nat × fj_I) := [(0, (.iload_n 1, 1, 0, [])),
  (1, (.invokestatic 187, 4, 114, [])),
  (4, (.ifCond .ne 6, 7, 10, [])),
  (7, (.ldc 190, 9, 0, [(-1000000001, 0)])),
  (9, (.ireturn, 10, 0, [])),
  (10, (.iload_n 2, 11, 0, [])),
  (11, (.tableswitch 90 0 6 #[41, 48, 55, 62, 69, 76, 83], 52, 101, [(0, 52), (1, 59), (2, 66), (3, 73), (4, 80), (5, 87), (6, 94)])),
  (52, (.aload_n 0, 53, 0, [])),
  (53, (.getfield 19, 56, 2003, [])),
  (56, (.iload_n 1, 57, 0, [])),
  (57, (.iaload, 58, 0, [])),
  (58, (.ireturn, 59, 0, [])),
  (59, (.aload_n 0, 60, 0, [])),
  (60, (.getfield 22, 63, 2004, [])),
  (63, (.iload_n 1, 64, 0, [])),
  (64, (.iaload, 65, 0, [])),
  (65, (.ireturn, 66, 0, [])),
  (66, (.aload_n 0, 67, 0, [])),
  (67, (.getfield 28, 70, 2006, [])),
  (70, (.iload_n 1, 71, 0, [])),
  (71, (.iaload, 72, 0, [])),
  (72, (.ireturn, 73, 0, [])),
  (73, (.aload_n 0, 74, 0, [])),
  (74, (.getfield 34, 77, 2008, [])),
  (77, (.iload_n 1, 78, 0, [])),
  (78, (.iaload, 79, 0, [])),
  (79, (.ireturn, 80, 0, [])),
  (80, (.aload_n 0, 81, 0, [])),
  (81, (.getfield 37, 84, 2009, [])),
  (84, (.iload_n 1, 85, 0, [])),
  (85, (.iaload, 86, 0, [])),
  (86, (.ireturn, 87, 0, [])),
  (87, (.aload_n 0, 88, 0, [])),
  (88, (.getfield 40, 91, 2010, [])),
  (91, (.iload_n 1, 92, 0, [])),
  (92, (.iaload, 93, 0, [])),
  (93, (.ireturn, 94, 0, [])),
  (94, (.aload_n 0, 95, 0, [])),
  (95, (.getfield 43, 98, 2011, [])),
  (98, (.iload_n 1, 99, 0, [])),
  (99, (.iaload, 100, 0, [])),
  (100, (.ireturn, 101, 0, [])),
  (101, (.ldc 190, 103, 0, [(-1000000001, 0)])),
  (103, (.ireturn, 104, 0, []))]
/-- X6_stack -/
def fj_c117 : List (Nat × fj_I) := [(0, (.iload_n 1, 1, 0, [])),
  (1, (.invokestatic 187, 4, 114, [])),
  (4, (.ifCond .eq 33, 7, 37, [])),
  (7, (.iload_n 2, 8, 0, [])),
  (8, (.iconst 0, 9, 0, [])),
  (9, (.aload_n 0, 10, 0, [])),
  (10, (.getfield 22, 13, 2004, [])),
  (13, (.iload_n 1, 14, 0, [])),
  (14, (.iaload, 15, 0, [])),
  (15, (.iconst 1, 16, 0, [])),
  (16, (.isub, 17, 0, [])),
  (17, (.invokestatic 74, 20, 78, [])),
  (20, (.ifCond .eq 17, 23, 37, [])),
  (23, (.aload_n 0, 24, 0, [])),
  (24, (.getfield 25, 27, 2005, [])),
  (27, (.bipush 24, 29, 0, [])),
  (29, (.iload_n 1, 30, 0, [])),
  (30, (.imul, 31, 0, [])),
  (31, (.iload_n 2, 32, 0, [])),
  (32, (.iadd, 33, 0, [])),
  (33, (.iaload, 34, 0, [])),
  (34, (.goto 4, 37, 38, [])),
  (37, (.iconst 0, 38, 0, [])),
  (38, (.ireturn, 39, 0, []))]
/-- X6_held -/
def fj_c118 : List (Nat × fj_I) := [(0, (.iload_n 1, 1, 0, [])),
  (1, (.invokestatic 96, 4, 87, [])),
  (4, (.ifCond .eq 12, 7, 16, [])),
  (7, (.aload_n 0, 8, 0, [])),
  (8, (.getfield 55, 11, 2015, [])),
  (11, (.iload_n 1, 12, 0, [])),
  (12, (.iaload, 13, 0, [])),
  (13, (.goto 4, 16, 17, [])),
  (16, (.iconst (-1), 17, 0, [])),
  (17, (.ireturn, 18, 0, []))]
/-- X6_channel -/
def fj_c119 : List (Nat × fj_I) := [(0, (.iload_n 1, 1, 0, [])),
  (1, (.invokestatic 96, 4, 87, [])),
  (4, (.ifCond .eq 33, 7, 37, [])),
  (7, (.iload_n 2, 8, 0, [])),
  (8, (.iconst 0, 9, 0, [])),
  (9, (.aload_n 0, 10, 0, [])),
  (10, (.getfield 55, 13, 2015, [])),
  (13, (.iload_n 1, 14, 0, [])),
  (14, (.iaload, 15, 0, [])),
  (15, (.iconst 1, 16, 0, [])),
  (16, (.isub, 17, 0, [])),
  (17, (.invokestatic 74, 20, 78, [])),
  (20, (.ifCond .eq 17, 23, 37, [])),
  (23, (.aload_n 0, 24, 0, [])),
  (24, (.getfield 58, 27, 2016, [])),
  (27, (.bipush 8, 29, 0, [])),
  (29, (.iload_n 1, 30, 0, [])),
  (30, (.imul, 31, 0, [])),
  (31, (.iload_n 2, 32, 0, [])),
  (32, (.iadd, 33, 0, [])),
  (33, (.iaload, 34, 0, [])),
  (34, (.goto 4, 37, 38, [])),
  (37, (.iconst 0, 38, 0, [])),
  (38, (.ireturn, 39, 0, []))]
/-- X6_memory -/
def fj_c120 : List (Nat × fj_I) := [(0, (.iload_n 1, 1, 0, [])),
  (1, (.iconst 0, 2, 0, [])),
  (2, (.bipush 63, 4, 0, [])),
  (4, (.invokestatic 74, 7, 78, [])),
  (7, (.ifCond .eq 12, 10, 19, [])),
  (10, (.aload_n 0, 11, 0, [])),
  (11, (.getfield 13, 14, 2001, [])),
  (14, (.iload_n 1, 15, 0, [])),
  (15, (.iaload, 16, 0, [])),
  (16, (.goto 4, 19, 20, [])),
  (19, (.iconst 0, 20, 0, [])),
  (20, (.ireturn, 21, 0, []))]
/-- X6_record -/
def fj_c121 : List (Nat × fj_I) := [(0, (.iload_n 1, 1, 0, [])),
  (1, (.iconst 0, 2, 0, [])),
  (2, (.sipush 299, 5, 0, [])),
  (5, (.invokestatic 74, 8, 78, [])),
  (8, (.ifCond .eq 20, 11, 28, [])),
  (11, (.iload_n 1, 12, 0, [])),
  (12, (.aload_n 0, 13, 0, [])),
  (13, (.getfield 184, 16, 2018, [])),
  (16, (.if_icmp .ge 12, 19, 28, [])),
  (19, (.aload_n 0, 20, 0, [])),
  (20, (.getfield 61, 23, 2017, [])),
  (23, (.iload_n 1, 24, 0, [])),
  (24, (.iaload, 25, 0, [])),
  (25, (.goto 4, 28, 29, [])),
  (28, (.iconst 0, 29, 0, [])),
  (29, (.ireturn, 30, 0, []))]
/-- X6_told -/
def fj_c122 : List (Nat × fj_I) := [(0, (.iconst 0, 1, 0, [])),
  (1, (.istore_n 2, 2, 0, [])),
  (2, (.iconst 0, 3, 0, [])),
  (3, (.istore_n 3, 4, 0, [])),
  (4, (.iconst 0, 5, 0, [])),
  (5, (.istore 4, 7, 0, [])),
  (7, (.iload 4, 9, 0, [])),
  (9, (.bipush 12, 11, 0, [])),
  (11, (.if_icmp .ge 45, 14, 56, [])),
  (14, (.iload_n 2, 15, 0, [])),
  (15, (.aload_n 0, 16, 0, [])),
  (16, (.iload 4, 18, 0, [])),
  (18, (.invokevirtual 78, 21, 82, [])),
  (21, (.ifCond .eq 7, 24, 28, [])),
  (24, (.iconst 1, 25, 0, [])),
  (25, (.goto 4, 28, 29, [])),
  (28, (.iconst 0, 29, 0, [])),
  (29, (.iadd, 30, 0, [])),
  (30, (.istore_n 2, 31, 0, [])),
  (31, (.iload_n 3, 32, 0, [])),
  (32, (.aload_n 0, 33, 0, [])),
  (33, (.getfield 16, 36, 2002, [])),
  (36, (.iload 4, 38, 0, [])),
  (38, (.iaload, 39, 0, [])),
  (39, (.iconst 1, 40, 0, [])),
  (40, (.if_icmp .ne 7, 43, 47, [])),
  (43, (.iconst 1, 44, 0, [])),
  (44, (.goto 4, 47, 48, [])),
  (47, (.iconst 0, 48, 0, [])),
  (48, (.iadd, 49, 0, [])),
  (49, (.istore_n 3, 50, 0, [])),
  (50, (.iinc 4 1, 53, 0, [])),
  (53, (.goto (-46), 56, 7, [])),
  (56, (.iload_n 1, 57, 0, [])),
  (57, (.tableswitch 81 0 7 #[47, 52, 57, 62, 67, 69, 71, 76], 104, 138, [(0, 104), (1, 109), (2, 114), (3, 119), (4, 124), (5, 126), (6, 128), (7, 133)])),
  (104, (.aload_n 0, 105, 0, [])),
  (105, (.getfield 120, 108, 2019, [])),
  (108, (.ireturn, 109, 0, [])),
  (109, (.aload_n 0, 110, 0, [])),
  (110, (.getfield 117, 113, 2020, [])),
  (113, (.ireturn, 114, 0, [])),
  (114, (.aload_n 0, 115, 0, [])),
  (115, (.getfield 123, 118, 2021, [])),
  (118, (.ireturn, 119, 0, [])),
  (119, (.aload_n 0, 120, 0, [])),
  (120, (.getfield 184, 123, 2018, [])),
  (123, (.ireturn, 124, 0, [])),
  (124, (.iload_n 2, 125, 0, [])),
  (125, (.ireturn, 126, 0, [])),
  (126, (.iload_n 3, 127, 0, [])),
  (127, (.ireturn, 128, 0, [])),
  (128, (.aload_n 0, 129, 0, [])),
  (129, (.getfield 82, 132, 2024, [])),
  (132, (.ireturn, 133, 0, [])),
  (133, (.aload_n 0, 134, 0, [])),
  (134, (.getfield 107, 137, 2025, [])),
  (137, (.ireturn, 138, 0, [])),
  (138, (.bipush (-2), 140, 0, [])),
  (140, (.ireturn, 141, 0, []))]
/-- L_law -/
def fj_c123 : List (Nat × fj_I) := [(16, (.iconst 0, 17, 0, [])),
  (17, (.istore_n 3, 18, 0, [])),
  (18, (.iload_n 3, 19, 0, [])),
  (19, (.aload_n 0, 20, 0, [])),
  (20, (.arraylength, 21, 0, [])),
  (21, (.iconst 3, 22, 0, [])),
  (22, (.isub, 23, 0, [])),
  (23, (.if_icmp .gt 604, 26, 627, [])),
  (26, (.aload_n 0, 27, 0, [])),
  (27, (.iload_n 3, 28, 0, [])),
  (28, (.iaload, 29, 0, [])),
  (29, (.bipush 31, 31, 0, [])),
  (31, (.iand, 32, 0, [])),
  (32, (.tableswitch 589 0 18 #[92, 125, 148, 181, 214, 237, 270, 303, 326, 339, 362, 375, 398, 431, 464, 487, 520, 543, 566], 124, 621, [(0, 124), (1, 157), (2, 180), (3, 213), (4, 246), (5, 269), (6, 302), (7, 335), (8, 358), (9, 371), (10, 394), (11, 407), (12, 430), (13, 463), (14, 496), (15, 519), (16, 552), (17, 575), (18, 598)])),
  (124, (.aload_n 1, 125, 0, [])),
  (125, (.aload_n 0, 126, 0, [])),
  (126, (.iload_n 3, 127, 0, [])),
  (127, (.iconst 1, 128, 0, [])),
  (128, (.iadd, 129, 0, [])),
  (129, (.iaload, 130, 0, [])),
  (130, (.aload_n 0, 131, 0, [])),
  (131, (.iload_n 3, 132, 0, [])),
  (132, (.iconst 2, 133, 0, [])),
  (133, (.iadd, 134, 0, [])),
  (134, (.iaload, 135, 0, [])),
  (135, (.invokevirtual 13, 138, 16, [])),
  (138, (.aload_n 2, 139, 0, [])),
  (139, (.aload_n 0, 140, 0, [])),
  (140, (.iload_n 3, 141, 0, [])),
  (141, (.iconst 1, 142, 0, [])),
  (142, (.iadd, 143, 0, [])),
  (143, (.iaload, 144, 0, [])),
  (144, (.aload_n 0, 145, 0, [])),
  (145, (.iload_n 3, 146, 0, [])),
  (146, (.iconst 2, 147, 0, [])),
  (147, (.iadd, 148, 0, [])),
  (148, (.iaload, 149, 0, [])),
  (149, (.invokevirtual 17, 152, 79, [])),
  (152, (.if_icmp .eq 469, 155, 621, [])),
  (155, (.iconst 0, 156, 0, [])),
  (156, (.ireturn, 157, 0, [])),
  (157, (.aload_n 1, 158, 0, [])),
  (158, (.aload_n 0, 159, 0, [])),
  (159, (.iload_n 3, 160, 0, [])),
  (160, (.iconst 1, 161, 0, [])),
  (161, (.iadd, 162, 0, [])),
  (162, (.iaload, 163, 0, [])),
  (163, (.invokevirtual 18, 166, 17, [])),
  (166, (.aload_n 2, 167, 0, [])),
  (167, (.aload_n 0, 168, 0, [])),
  (168, (.iload_n 3, 169, 0, [])),
  (169, (.iconst 1, 170, 0, [])),
  (170, (.iadd, 171, 0, [])),
  (171, (.iaload, 172, 0, [])),
  (172, (.invokevirtual 22, 175, 80, [])),
  (175, (.if_icmp .eq 446, 178, 621, [])),
  (178, (.iconst 0, 179, 0, [])),
  (179, (.ireturn, 180, 0, [])),
  (180, (.aload_n 1, 181, 0, [])),
  (181, (.aload_n 0, 182, 0, [])),
  (182, (.iload_n 3, 183, 0, [])),
  (183, (.iconst 1, 184, 0, [])),
  (184, (.iadd, 185, 0, [])),
  (185, (.iaload, 186, 0, [])),
  (186, (.aload_n 0, 187, 0, [])),
  (187, (.iload_n 3, 188, 0, [])),
  (188, (.iconst 2, 189, 0, [])),
  (189, (.iadd, 190, 0, [])),
  (190, (.iaload, 191, 0, [])),
  (191, (.invokevirtual 23, 194, 18, [])),
  (194, (.aload_n 2, 195, 0, [])),
  (195, (.aload_n 0, 196, 0, [])),
  (196, (.iload_n 3, 197, 0, [])),
  (197, (.iconst 1, 198, 0, [])),
  (198, (.iadd, 199, 0, [])),
  (199, (.iaload, 200, 0, [])),
  (200, (.aload_n 0, 201, 0, [])),
  (201, (.iload_n 3, 202, 0, [])),
  (202, (.iconst 2, 203, 0, [])),
  (203, (.iadd, 204, 0, [])),
  (204, (.iaload, 205, 0, [])),
  (205, (.invokevirtual 26, 208, 81, [])),
  (208, (.if_icmp .eq 413, 211, 621, [])),
  (211, (.iconst 0, 212, 0, [])),
  (212, (.ireturn, 213, 0, [])),
  (213, (.aload_n 1, 214, 0, [])),
  (214, (.aload_n 0, 215, 0, [])),
  (215, (.iload_n 3, 216, 0, [])),
  (216, (.iconst 1, 217, 0, [])),
  (217, (.iadd, 218, 0, [])),
  (218, (.iaload, 219, 0, [])),
  (219, (.aload_n 0, 220, 0, [])),
  (220, (.iload_n 3, 221, 0, [])),
  (221, (.iconst 2, 222, 0, [])),
  (222, (.iadd, 223, 0, [])),
  (223, (.iaload, 224, 0, [])),
  (224, (.invokevirtual 27, 227, 19, [])),
  (227, (.aload_n 2, 228, 0, [])),
  (228, (.aload_n 0, 229, 0, [])),
  (229, (.iload_n 3, 230, 0, [])),
  (230, (.iconst 1, 231, 0, [])),
  (231, (.iadd, 232, 0, [])),
  (232, (.iaload, 233, 0, [])),
  (233, (.aload_n 0, 234, 0, [])),
  (234, (.iload_n 3, 235, 0, [])),
  (235, (.iconst 2, 236, 0, [])),
  (236, (.iadd, 237, 0, [])),
  (237, (.iaload, 238, 0, [])),
  (238, (.invokevirtual 30, 241, 85, [])),
  (241, (.if_icmp .eq 380, 244, 621, [])),
  (244, (.iconst 0, 245, 0, [])),
  (245, (.ireturn, 246, 0, [])),
  (246, (.aload_n 1, 247, 0, [])),
  (247, (.aload_n 0, 248, 0, [])),
  (248, (.iload_n 3, 249, 0, [])),
  (249, (.iconst 1, 250, 0, [])),
  (250, (.iadd, 251, 0, [])),
  (251, (.iaload, 252, 0, [])),
  (252, (.invokevirtual 31, 255, 20, [])),
  (255, (.aload_n 2, 256, 0, [])),
  (256, (.aload_n 0, 257, 0, [])),
  (257, (.iload_n 3, 258, 0, [])),
  (258, (.iconst 1, 259, 0, [])),
  (259, (.iadd, 260, 0, [])),
  (260, (.iaload, 261, 0, [])),
  (261, (.invokevirtual 34, 264, 86, [])),
  (264, (.if_icmp .eq 357, 267, 621, [])),
  (267, (.iconst 0, 268, 0, [])),
  (268, (.ireturn, 269, 0, [])),
  (269, (.aload_n 1, 270, 0, [])),
  (270, (.aload_n 0, 271, 0, [])),
  (271, (.iload_n 3, 272, 0, [])),
  (272, (.iconst 1, 273, 0, [])),
  (273, (.iadd, 274, 0, [])),
  (274, (.iaload, 275, 0, [])),
  (275, (.aload_n 0, 276, 0, [])),
  (276, (.iload_n 3, 277, 0, [])),
  (277, (.iconst 2, 278, 0, [])),
  (278, (.iadd, 279, 0, [])),
  (279, (.iaload, 280, 0, [])),
  (280, (.invokevirtual 35, 283, 21, [])),
  (283, (.aload_n 2, 284, 0, [])),
  (284, (.aload_n 0, 285, 0, [])),
  (285, (.iload_n 3, 286, 0, [])),
  (286, (.iconst 1, 287, 0, [])),
  (287, (.iadd, 288, 0, [])),
  (288, (.iaload, 289, 0, [])),
  (289, (.aload_n 0, 290, 0, [])),
  (290, (.iload_n 3, 291, 0, [])),
  (291, (.iconst 2, 292, 0, [])),
  (292, (.iadd, 293, 0, [])),
  (293, (.iaload, 294, 0, [])),
  (294, (.invokevirtual 38, 297, 88, [])),
  (297, (.if_icmp .eq 324, 300, 621, [])),
  (300, (.iconst 0, 301, 0, [])),
  (301, (.ireturn, 302, 0, [])),
  (302, (.aload_n 1, 303, 0, [])),
  (303, (.aload_n 0, 304, 0, [])),
  (304, (.iload_n 3, 305, 0, [])),
  (305, (.iconst 1, 306, 0, [])),
  (306, (.iadd, 307, 0, [])),
  (307, (.iaload, 308, 0, [])),
  (308, (.aload_n 0, 309, 0, [])),
  (309, (.iload_n 3, 310, 0, [])),
  (310, (.iconst 2, 311, 0, [])),
  (311, (.iadd, 312, 0, [])),
  (312, (.iaload, 313, 0, [])),
  (313, (.invokevirtual 39, 316, 22, [])),
  (316, (.aload_n 2, 317, 0, [])),
  (317, (.aload_n 0, 318, 0, [])),
  (318, (.iload_n 3, 319, 0, [])),
  (319, (.iconst 1, 320, 0, [])),
  (320, (.iadd, 321, 0, [])),
  (321, (.iaload, 322, 0, [])),
  (322, (.aload_n 0, 323, 0, [])),
  (323, (.iload_n 3, 324, 0, [])),
  (324, (.iconst 2, 325, 0, [])),
  (325, (.iadd, 326, 0, [])),
  (326, (.iaload, 327, 0, [])),
  (327, (.invokevirtual 42, 330, 91, [])),
  (330, (.if_icmp .eq 291, 333, 621, [])),
  (333, (.iconst 0, 334, 0, [])),
  (334, (.ireturn, 335, 0, [])),
  (335, (.aload_n 1, 336, 0, [])),
  (336, (.aload_n 0, 337, 0, [])),
  (337, (.iload_n 3, 338, 0, [])),
  (338, (.iconst 1, 339, 0, [])),
  (339, (.iadd, 340, 0, [])),
  (340, (.iaload, 341, 0, [])),
  (341, (.invokevirtual 43, 344, 23, [])),
  (344, (.aload_n 2, 345, 0, [])),
  (345, (.aload_n 0, 346, 0, [])),
  (346, (.iload_n 3, 347, 0, [])),
  (347, (.iconst 1, 348, 0, [])),
  (348, (.iadd, 349, 0, [])),
  (349, (.iaload, 350, 0, [])),
  (350, (.invokevirtual 46, 353, 92, [])),
  (353, (.if_icmp .eq 268, 356, 621, [])),
  (356, (.iconst 0, 357, 0, [])),
  (357, (.ireturn, 358, 0, [])),
  (358, (.aload_n 1, 359, 0, [])),
  (359, (.invokevirtual 47, 362, 24, [])),
  (362, (.aload_n 2, 363, 0, [])),
  (363, (.invokevirtual 51, 366, 97, [])),
  (366, (.if_icmp .eq 255, 369, 621, [])),
  (369, (.iconst 0, 370, 0, [])),
  (370, (.ireturn, 371, 0, [])),
  (371, (.aload_n 1, 372, 0, [])),
  (372, (.aload_n 0, 373, 0, [])),
  (373, (.iload_n 3, 374, 0, [])),
  (374, (.iconst 1, 375, 0, [])),
  (375, (.iadd, 376, 0, [])),
  (376, (.iaload, 377, 0, [])),
  (377, (.invokevirtual 52, 380, 25, [])),
  (380, (.aload_n 2, 381, 0, [])),
  (381, (.aload_n 0, 382, 0, [])),
  (382, (.iload_n 3, 383, 0, [])),
  (383, (.iconst 1, 384, 0, [])),
  (384, (.iadd, 385, 0, [])),
  (385, (.iaload, 386, 0, [])),
  (386, (.invokevirtual 55, 389, 98, [])),
  (389, (.if_icmp .eq 232, 392, 621, [])),
  (392, (.iconst 0, 393, 0, [])),
  (393, (.ireturn, 394, 0, [])),
  (394, (.aload_n 1, 395, 0, [])),
  (395, (.invokevirtual 56, 398, 26, [])),
  (398, (.aload_n 2, 399, 0, [])),
  (399, (.invokevirtual 59, 402, 113, [])),
  (402, (.if_icmp .eq 219, 405, 621, [])),
  (405, (.iconst 0, 406, 0, [])),
  (406, (.ireturn, 407, 0, [])),
  (407, (.aload_n 1, 408, 0, [])),
  (408, (.aload_n 0, 409, 0, [])),
  (409, (.iload_n 3, 410, 0, [])),
  (410, (.iconst 1, 411, 0, [])),
  (411, (.iadd, 412, 0, [])),
  (412, (.iaload, 413, 0, [])),
  (413, (.invokevirtual 60, 416, 27, [])),
  (416, (.aload_n 2, 417, 0, [])),
  (417, (.aload_n 0, 418, 0, [])),
  (418, (.iload_n 3, 419, 0, [])),
  (419, (.iconst 1, 420, 0, [])),
  (420, (.iadd, 421, 0, [])),
  (421, (.iaload, 422, 0, [])),
  (422, (.invokevirtual 63, 425, 115, [])),
  (425, (.if_icmp .eq 196, 428, 621, [])),
  (428, (.iconst 0, 429, 0, [])),
  (429, (.ireturn, 430, 0, [])),
  (430, (.aload_n 1, 431, 0, [])),
  (431, (.aload_n 0, 432, 0, [])),
  (432, (.iload_n 3, 433, 0, [])),
  (433, (.iconst 1, 434, 0, [])),
  (434, (.iadd, 435, 0, [])),
  (435, (.iaload, 436, 0, [])),
  (436, (.aload_n 0, 437, 0, [])),
  (437, (.iload_n 3, 438, 0, [])),
  (438, (.iconst 2, 439, 0, [])),
  (439, (.iadd, 440, 0, [])),
  (440, (.iaload, 441, 0, [])),
  (441, (.invokevirtual 64, 444, 28, [])),
  (444, (.aload_n 2, 445, 0, [])),
  (445, (.aload_n 0, 446, 0, [])),
  (446, (.iload_n 3, 447, 0, [])),
  (447, (.iconst 1, 448, 0, [])),
  (448, (.iadd, 449, 0, [])),
  (449, (.iaload, 450, 0, [])),
  (450, (.aload_n 0, 451, 0, [])),
  (451, (.iload_n 3, 452, 0, [])),
  (452, (.iconst 2, 453, 0, [])),
  (453, (.iadd, 454, 0, [])),
  (454, (.iaload, 455, 0, [])),
  (455, (.invokevirtual 67, 458, 116, [])),
  (458, (.if_icmp .eq 163, 461, 621, [])),
  (461, (.iconst 0, 462, 0, [])),
  (462, (.ireturn, 463, 0, [])),
  (463, (.aload_n 1, 464, 0, [])),
  (464, (.aload_n 0, 465, 0, [])),
  (465, (.iload_n 3, 466, 0, [])),
  (466, (.iconst 1, 467, 0, [])),
  (467, (.iadd, 468, 0, [])),
  (468, (.iaload, 469, 0, [])),
  (469, (.aload_n 0, 470, 0, [])),
  (470, (.iload_n 3, 471, 0, [])),
  (471, (.iconst 2, 472, 0, [])),
  (472, (.iadd, 473, 0, [])),
  (473, (.iaload, 474, 0, [])),
  (474, (.invokevirtual 68, 477, 29, [])),
  (477, (.aload_n 2, 478, 0, [])),
  (478, (.aload_n 0, 479, 0, [])),
  (479, (.iload_n 3, 480, 0, [])),
  (480, (.iconst 1, 481, 0, [])),
  (481, (.iadd, 482, 0, [])),
  (482, (.iaload, 483, 0, [])),
  (483, (.aload_n 0, 484, 0, [])),
  (484, (.iload_n 3, 485, 0, [])),
  (485, (.iconst 2, 486, 0, [])),
  (486, (.iadd, 487, 0, [])),
  (487, (.iaload, 488, 0, [])),
  (488, (.invokevirtual 71, 491, 117, [])),
  (491, (.if_icmp .eq 130, 494, 621, [])),
  (494, (.iconst 0, 495, 0, [])),
  (495, (.ireturn, 496, 0, [])),
  (496, (.aload_n 1, 497, 0, [])),
  (497, (.aload_n 0, 498, 0, [])),
  (498, (.iload_n 3, 499, 0, [])),
  (499, (.iconst 1, 500, 0, [])),
  (500, (.iadd, 501, 0, [])),
  (501, (.iaload, 502, 0, [])),
  (502, (.invokevirtual 72, 505, 30, [])),
  (505, (.aload_n 2, 506, 0, [])),
  (506, (.aload_n 0, 507, 0, [])),
  (507, (.iload_n 3, 508, 0, [])),
  (508, (.iconst 1, 509, 0, [])),
  (509, (.iadd, 510, 0, [])),
  (510, (.iaload, 511, 0, [])),
  (511, (.invokevirtual 75, 514, 118, [])),
  (514, (.if_icmp .eq 107, 517, 621, [])),
  (517, (.iconst 0, 518, 0, [])),
  (518, (.ireturn, 519, 0, [])),
  (519, (.aload_n 1, 520, 0, [])),
  (520, (.aload_n 0, 521, 0, [])),
  (521, (.iload_n 3, 522, 0, [])),
  (522, (.iconst 1, 523, 0, [])),
  (523, (.iadd, 524, 0, [])),
  (524, (.iaload, 525, 0, [])),
  (525, (.aload_n 0, 526, 0, [])),
  (526, (.iload_n 3, 527, 0, [])),
  (527, (.iconst 2, 528, 0, [])),
  (528, (.iadd, 529, 0, [])),
  (529, (.iaload, 530, 0, [])),
  (530, (.invokevirtual 76, 533, 31, [])),
  (533, (.aload_n 2, 534, 0, [])),
  (534, (.aload_n 0, 535, 0, [])),
  (535, (.iload_n 3, 536, 0, [])),
  (536, (.iconst 1, 537, 0, [])),
  (537, (.iadd, 538, 0, [])),
  (538, (.iaload, 539, 0, [])),
  (539, (.aload_n 0, 540, 0, [])),
  (540, (.iload_n 3, 541, 0, [])),
  (541, (.iconst 2, 542, 0, [])),
  (542, (.iadd, 543, 0, [])),
  (543, (.iaload, 544, 0, [])),
  (544, (.invokevirtual 79, 547, 119, [])),
  (547, (.if_icmp .eq 74, 550, 621, [])),
  (550, (.iconst 0, 551, 0, [])),
  (551, (.ireturn, 552, 0, [])),
  (552, (.aload_n 1, 553, 0, [])),
  (553, (.aload_n 0, 554, 0, [])),
  (554, (.iload_n 3, 555, 0, [])),
  (555, (.iconst 1, 556, 0, [])),
  (556, (.iadd, 557, 0, [])),
  (557, (.iaload, 558, 0, [])),
  (558, (.invokevirtual 80, 561, 32, [])),
  (561, (.aload_n 2, 562, 0, [])),
  (562, (.aload_n 0, 563, 0, [])),
  (563, (.iload_n 3, 564, 0, [])),
  (564, (.iconst 1, 565, 0, [])),
  (565, (.iadd, 566, 0, [])),
  (566, (.iaload, 567, 0, [])),
  (567, (.invokevirtual 83, 570, 120, [])),
  (570, (.if_icmp .eq 51, 573, 621, [])),
  (573, (.iconst 0, 574, 0, [])),
  (574, (.ireturn, 575, 0, [])),
  (575, (.aload_n 1, 576, 0, [])),
  (576, (.aload_n 0, 577, 0, [])),
  (577, (.iload_n 3, 578, 0, [])),
  (578, (.iconst 1, 579, 0, [])),
  (579, (.iadd, 580, 0, [])),
  (580, (.iaload, 581, 0, [])),
  (581, (.invokevirtual 84, 584, 33, [])),
  (584, (.aload_n 2, 585, 0, [])),
  (585, (.aload_n 0, 586, 0, [])),
  (586, (.iload_n 3, 587, 0, [])),
  (587, (.iconst 1, 588, 0, [])),
  (588, (.iadd, 589, 0, [])),
  (589, (.iaload, 590, 0, [])),
  (590, (.invokevirtual 87, 593, 121, [])),
  (593, (.if_icmp .eq 28, 596, 621, [])),
  (596, (.iconst 0, 597, 0, [])),
  (597, (.ireturn, 598, 0, [])),
  (598, (.aload_n 1, 599, 0, [])),
  (599, (.aload_n 0, 600, 0, [])),
  (600, (.iload_n 3, 601, 0, [])),
  (601, (.iconst 1, 602, 0, [])),
  (602, (.iadd, 603, 0, [])),
  (603, (.iaload, 604, 0, [])),
  (604, (.invokevirtual 88, 607, 34, [])),
  (607, (.aload_n 2, 608, 0, [])),
  (608, (.aload_n 0, 609, 0, [])),
  (609, (.iload_n 3, 610, 0, [])),
  (610, (.iconst 1, 611, 0, [])),
  (611, (.iadd, 612, 0, [])),
  (612, (.iaload, 613, 0, [])),
  (613, (.invokevirtual 91, 616, 122, [])),
  (616, (.if_icmp .eq 5, 619, 621, [])),
  (619, (.iconst 0, 620, 0, [])),
  (620, (.ireturn, 621, 0, [])),
  (621, (.iinc 3 3, 624, 0, [])),
  (624, (.goto (-606), 627, 18, [])),
  (627, (.iconst 1, 628, 0, [])),
  (628, (.ireturn, 629, 0, []))]
def fj_tabs : List (Nat × List (Nat × fj_I)) := [(0, fj_c0), (1, fj_c1), (2, fj_c2), (3, fj_c3), (4, fj_c4), (5, fj_c5), (6, fj_c6), (7, fj_c7), (8, fj_c8), (9, fj_c9), (10, fj_c10), (11, fj_c11), (12, fj_c12), (13, fj_c13), (14, fj_c14), (15, fj_c15), (16, fj_c16), (17, fj_c17), (18, fj_c18), (19, fj_c19), (20, fj_c20), (21, fj_c21), (22, fj_c22), (23, fj_c23), (24, fj_c24), (25, fj_c25), (26, fj_c26), (27, fj_c27), (28, fj_c28), (29, fj_c29), (30, fj_c30), (31, fj_c31), (32, fj_c32), (33, fj_c33), (34, fj_c34), (35, fj_c35), (36, fj_c36), (37, fj_c37), (38, fj_c38), (39, fj_c39), (40, fj_c40), (41, fj_c41), (42, fj_c42), (43, fj_c43), (44, fj_c44), (45, fj_c45), (46, fj_c46), (47, fj_c47), (48, fj_c48), (49, fj_c49), (50, fj_c50), (51, fj_c51), (52, fj_c52), (53, fj_c53), (54, fj_c54), (55, fj_c55), (56, fj_c56), (57, fj_c57), (58, fj_c58), (59, fj_c59), (60, fj_c60), (61, fj_c61), (62, fj_c62), (63, fj_c63), (64, fj_c64), (65, fj_c65), (66, fj_c66), (67, fj_c67), (68, fj_c68), (69, fj_c69), (70, fj_c70), (71, fj_c71), (72, fj_c72), (73, fj_c73), (74, fj_c74), (75, fj_c75), (76, fj_c76), (77, fj_c77), (78, fj_c78), (79, fj_c79), (80, fj_c80), (81, fj_c81), (82, fj_c82), (83, fj_c83), (84, fj_c84), (85, fj_c85), (86, fj_c86), (87, fj_c87), (88, fj_c88), (89, fj_c89), (90, fj_c90), (91, fj_c91), (92, fj_c92), (93, fj_c93), (94, fj_c94), (95, fj_c95), (96, fj_c96), (97, fj_c97), (98, fj_c98), (99, fj_c99), (100, fj_c100), (101, fj_c101), (102, fj_c102), (103, fj_c103), (104, fj_c104), (105, fj_c105), (106, fj_c106), (107, fj_c107), (108, fj_c108), (109, fj_c109), (110, fj_c110), (111, fj_c111), (112, fj_c112), (113, fj_c113), (114, fj_c114), (115, fj_c115), (116, fj_c116), (117, fj_c117), (118, fj_c118), (119, fj_c119), (120, fj_c120), (121, fj_c121), (122, fj_c122), (123, fj_c123)]
/-- name, bytes, locals, kind of answer, own class, ints and references taken, static, frames, locals below -/
def fj_ms : List (Nat × MethodName × ByteArray × Nat × Nat × Nat × Nat × Bool × Nat × Nat) := [(0, yX0_append, cX0_append, 2, 0, 0, 2, false, 0, 0),
  (1, yX0_removeFirst, cX0_removeFirst, 3, 1, 0, 1, false, 0, 0),
  (2, yX2_isOne, cX2_isOne, 1, 2, 2, 1, true, 0, 0),
  (3, yX2_isOfChannel, cX2_isOfChannel, 1, 2, 2, 1, true, 0, 0),
  (4, yX2_takenBy, cX2_takenBy, 1, 1, 2, 1, true, 0, 0),
  (5, yX2_givenBy, cX2_givenBy, 1, 1, 2, 1, true, 0, 0),
  (6, yX4_isLive, cX4_isLive, 1, 2, 4, 1, false, 0, 0),
  (7, yX4_begin, cX4_begin, 3, 0, 4, 3, false, 1, 22),
  (8, yX4_restartAt, cX4_restartAt, 3, 0, 4, 3, false, 0, 0),
  (9, yX4_end, cX4_end, 3, 0, 4, 3, false, 0, 0),
  (10, yX4_waitFor, cX4_waitFor, 4, 0, 4, 4, false, 0, 0),
  (11, yX4_push, cX4_push, 2, 0, 4, 2, false, 0, 0),
  (12, yX4_pop, cX4_pop, 1, 1, 4, 1, false, 0, 0),
  (13, yX4_below, cX4_below, 2, 1, 4, 2, false, 0, 0),
  (14, yX4_pushReturn, cX4_pushReturn, 2, 0, 4, 2, false, 0, 0),
  (15, yX4_popReturn, cX4_popReturn, 1, 1, 4, 1, false, 0, 0),
  (16, yX5_poke, cX5_poke, 4, 1, 5, 3, false, 1, 20),
  (17, yX5_code, cX5_code, 2, 1, 5, 2, false, 1, 20),
  (18, yX5_word, cX5_word, 3, 1, 5, 3, false, 0, 0),
  (19, yX5_spawn, cX5_spawn, 4, 1, 5, 3, false, 3, 68),
  (20, yX5_quantum, cX5_quantum, 3, 1, 5, 2, false, 0, 0),
  (21, yX5_size, cX5_size, 5, 1, 5, 3, false, 4, 83),
  (22, yX5_put, cX5_put, 3, 1, 5, 3, false, 4, 83),
  (23, yX5_take, cX5_take, 3, 1, 5, 2, false, 4, 83),
  (24, yX5_step, cX5_step, 1, 1, 5, 1, false, 6, 138),
  (25, yX5_run, cX5_run, 4, 1, 5, 2, false, 6, 138),
  (26, yX5_latest, cX5_latest, 1, 1, 5, 1, false, 0, 0),
  (27, yX5_state, cX5_state, 2, 1, 5, 2, false, 1, 20),
  (28, yX5_about, cX5_about, 4, 1, 5, 3, false, 1, 20),
  (29, yX5_stack, cX5_stack, 3, 1, 5, 3, false, 1, 20),
  (30, yX5_held, cX5_held, 2, 1, 5, 2, false, 1, 20),
  (31, yX5_channel, cX5_channel, 3, 1, 5, 3, false, 1, 20),
  (32, yX5_memory, cX5_memory, 2, 1, 5, 2, false, 1, 20),
  (33, yX5_record, cX5_record, 2, 1, 5, 2, false, 0, 0),
  (34, yX5_told, cX5_told, 2, 1, 5, 2, false, 2, 42),
  (35, yX5_isCodePlace, cX5_isCodePlace, 1, 2, 5, 1, true, 0, 0),
  (36, yX5_isMemoryPlace, cX5_isMemoryPlace, 1, 2, 5, 1, true, 0, 0),
  (37, yX5_isTask, cX5_isTask, 1, 2, 5, 1, true, 0, 0),
  (38, yX5_isChannel, cX5_isChannel, 1, 2, 5, 1, true, 0, 0),
  (39, yX5_isLive, cX5_isLive, 2, 2, 5, 2, false, 1, 20),
  (40, yX5_hasRoom, cX5_hasRoom, 2, 2, 5, 2, false, 0, 0),
  (41, yX5_hasInts, cX5_hasInts, 2, 2, 5, 2, false, 0, 0),
  (42, yX5_countLive, cX5_countLive, 3, 1, 5, 1, false, 1, 20),
  (43, yX5_countIn, cX5_countIn, 4, 1, 5, 2, false, 0, 0),
  (44, yX5_startTask, cX5_startTask, 5, 1, 5, 3, false, 2, 44),
  (45, yX5_leastNotLive, cX5_leastNotLive, 2, 1, 5, 1, false, 1, 20),
  (46, yX5_wakeSleepers, cX5_wakeSleepers, 2, 0, 5, 1, false, 0, 0),
  (47, yX5_wakeWaiting, cX5_wakeWaiting, 2, 0, 5, 1, false, 3, 62),
  (48, yX5_isThere, cX5_isThere, 2, 2, 5, 2, false, 2, 41),
  (49, yX5_advance, cX5_advance, 1, 1, 5, 1, false, 5, 118),
  (50, yX5_passTurn, cX5_passTurn, 3, 2, 5, 1, false, 0, 0),
  (51, yX5_standstill, cX5_standstill, 1, 1, 5, 1, false, 2, 42),
  (52, yX5_doOp, cX5_doOp, 5, 0, 5, 1, false, 4, 94),
  (53, yX5_mustWait, cX5_mustWait, 4, 2, 5, 4, false, 3, 62),
  (54, yX5_faultOf, cX5_faultOf, 6, 1, 5, 4, false, 3, 66),
  (55, yX5_lacksInts, cX5_lacksInts, 2, 2, 5, 2, true, 1, 21),
  (56, yX5_lacksPlace, cX5_lacksPlace, 3, 2, 5, 3, true, 1, 20),
  (57, yX5_lacksChannel, cX5_lacksChannel, 2, 2, 5, 2, true, 1, 20),
  (58, yX5_lacksTask, cX5_lacksTask, 2, 2, 5, 2, false, 1, 20),
  (59, yX5_isFaulted, cX5_isFaulted, 2, 2, 5, 2, false, 1, 20),
  (60, yX5_overflows, cX5_overflows, 4, 2, 5, 4, false, 2, 43),
  (61, yX5_comingBy, cX5_comingBy, 3, 1, 5, 3, false, 1, 21),
  (62, yX5_bringFault, cX5_bringFault, 8, 0, 5, 3, false, 2, 44),
  (63, yX5_strike, cX5_strike, 3, 2, 5, 3, false, 1, 22),
  (64, yX5_perform, cX5_perform, 4, 0, 5, 4, false, 3, 71),
  (65, yX5_calculate, cX5_calculate, 5, 0, 5, 3, true, 2, 43),
  (66, yX5_swap, cX5_swap, 3, 0, 5, 1, true, 1, 21),
  (67, yX5_combine, cX5_combine, 3, 1, 5, 3, true, 0, 0),
  (68, yX5_go, cX5_go, 3, 0, 5, 3, true, 1, 21),
  (69, yX5_useMemory, cX5_useMemory, 6, 0, 5, 4, false, 1, 21),
  (70, yX5_useChannel, cX5_useChannel, 4, 0, 5, 4, false, 2, 47),
  (71, yX5_trySend, cX5_trySend, 5, 0, 5, 3, false, 1, 21),
  (72, yX5_tryReceive, cX5_tryReceive, 4, 0, 5, 3, false, 1, 22),
  (73, yX5_choose, cX5_choose, 6, 0, 5, 4, false, 1, 22),
  (74, yX5_useItself, cX5_useItself, 4, 0, 5, 4, false, 2, 43),
  (75, yX5_outcomeOf, cX5_outcomeOf, 2, 1, 5, 2, false, 1, 20),
  (76, yX5_sleep, cX5_sleep, 3, 0, 5, 3, false, 1, 21),
  (77, yX5_print, cX5_print, 2, 0, 5, 2, false, 0, 0),
  (78, yX6_in, cX6_in, 3, 2, 6, 3, true, 0, 0),
  (79, yX6_poke, cX6_poke, 4, 1, 6, 3, false, 1, 22),
  (80, yX6_code, cX6_code, 2, 1, 6, 2, false, 1, 22),
  (81, yX6_word, cX6_word, 3, 1, 6, 3, false, 1, 22),
  (82, yX6_isLive, cX6_isLive, 2, 2, 6, 2, false, 1, 22),
  (83, yX6_unused, cX6_unused, 3, 1, 6, 1, false, 2, 43),
  (84, yX6_begin, cX6_begin, 5, 0, 6, 4, false, 0, 0),
  (85, yX6_spawn, cX6_spawn, 4, 1, 6, 3, false, 3, 65),
  (86, yX6_quantum, cX6_quantum, 3, 1, 6, 2, false, 1, 22),
  (87, yX6_isChannel, cX6_isChannel, 1, 2, 6, 1, true, 1, 22),
  (88, yX6_size, cX6_size, 4, 1, 6, 3, false, 3, 65),
  (89, yX6_comes, cX6_comes, 3, 0, 6, 3, false, 0, 0),
  (90, yX6_goes, cX6_goes, 4, 1, 6, 2, false, 0, 0),
  (91, yX6_put, cX6_put, 4, 1, 6, 3, false, 3, 65),
  (92, yX6_take, cX6_take, 3, 1, 6, 2, false, 3, 65),
  (93, yX6_wake, cX6_wake, 3, 0, 6, 1, false, 2, 43),
  (94, yX6_fault, cX6_fault, 4, 0, 6, 4, false, 0, 0),
  (95, yX6_spread, cX6_spread, 3, 0, 6, 1, false, 2, 43),
  (96, yX6_ring, cX6_ring, 3, 1, 6, 1, false, 0, 0),
  (97, yX6_step, cX6_step, 5, 1, 6, 1, false, 6, 144),
  (98, yX6_run, cX6_run, 4, 1, 6, 2, false, 7, 168),
  (99, yX6_takes, cX6_takes, 2, 1, 6, 1, true, 1, 22),
  (100, yX6_topOf, cX6_topOf, 3, 1, 6, 3, false, 0, 0),
  (101, yX6_gives, cX6_gives, 4, 0, 6, 4, false, 0, 0),
  (102, yX6_work, cX6_work, 8, 1, 6, 2, false, 5, 117),
  (103, yX6_more, cX6_more, 1, 1, 6, 1, true, 0, 0),
  (104, yX6_workPlain, cX6_workPlain, 6, 1, 6, 6, false, 1, 23),
  (105, yX6_reckoned, cX6_reckoned, 3, 1, 6, 3, true, 0, 0),
  (106, yX6_waits, cX6_waits, 5, 1, 6, 5, false, 0, 0),
  (107, yX6_workChannel, cX6_workChannel, 10, 1, 6, 5, false, 1, 24),
  (108, yX6_whichOf, cX6_whichOf, 2, 1, 6, 2, true, 0, 0),
  (109, yX6_workOther, cX6_workOther, 7, 1, 6, 6, false, 4, 91),
  (110, yX6_jump, cX6_jump, 5, 0, 6, 5, false, 0, 0),
  (111, yX6_inMemory, cX6_inMemory, 7, 0, 6, 6, false, 3, 65),
  (112, yX6_act, cX6_act, 5, 0, 6, 5, false, 2, 43),
  (113, yX6_latest, cX6_latest, 1, 1, 6, 1, false, 0, 0),
  (114, yX6_isTask, cX6_isTask, 1, 2, 6, 1, true, 1, 22),
  (115, yX6_state, cX6_state, 2, 1, 6, 2, false, 2, 42),
  (116, yX6_about, cX6_about, 3, 1, 6, 3, false, 2, 42),
  (117, yX6_stack, cX6_stack, 3, 1, 6, 3, false, 2, 42),
  (118, yX6_held, cX6_held, 2, 1, 6, 2, false, 2, 42),
  (119, yX6_channel, cX6_channel, 3, 1, 6, 3, false, 2, 42),
  (120, yX6_memory, cX6_memory, 2, 1, 6, 2, false, 1, 22),
  (121, yX6_record, cX6_record, 2, 1, 6, 2, false, 1, 22),
  (122, yX6_told, cX6_told, 5, 1, 6, 2, false, 2, 43),
  (123, yL_law, cL_law, 4, 2, 10, 1, true, 8, 191)]
def fj_fl : List (Nat × Nat × Nat) := [(4009, 7, 0), (5110, 7, 0), (4015, 7, 1), (4020, 7, 2), (5083, 7, 2), (4037, 7, 3), (5087, 7, 3), (4040, 7, 4), (5090, 7, 4), (4043, 7, 5), (5093, 7, 5), (4024, 7, 6), (5096, 7, 6), (4031, 7, 7), (5099, 7, 7), (5104, 7, 8), (4034, 7, 9), (5107, 7, 9), (4046, 7, 10), (5159, 7, 10), (4049, 7, 11), (5162, 7, 11), (9, 10, 0), (5113, 10, 0), (19, 10, 1), (5054, 10, 1), (15, 10, 2), (5057, 10, 2), (5009, 0, 0), (5013, 0, 1), (5016, 0, 2), (5021, 0, 3), (5027, 0, 4), (5031, 0, 5), (5034, 0, 6), (5038, 0, 7), (5125, 0, 8), (5128, 0, 9), (5122, 0, 10), (5119, 0, 11), (5138, 0, 12), (5141, 0, 13), (6007, 20, 0), (6013, 20, 1), (6016, 20, 2), (6019, 20, 3), (6022, 20, 4), (6025, 20, 5), (6028, 20, 6), (6031, 20, 7), (6034, 20, 8), (6037, 20, 9), (6040, 20, 10), (6043, 20, 11), (6046, 20, 12), (6049, 20, 13), (6052, 20, 14), (6055, 20, 15), (6058, 20, 16), (6061, 20, 17), (6184, 20, 18), (6120, 20, 19), (6117, 20, 20), (6123, 20, 21), (6067, 20, 22), (6071, 20, 23), (6082, 20, 24), (6107, 20, 25), (6064, 20, 26), (6110, 20, 27)]
def fj_sl : List (Nat × Nat) := [(2009, 40), (2013, 41)]
def fj_ml : List (Nat × Nat) := [(10013, 16), (5043, 35), (10018, 17), (10023, 18), (10027, 19), (5047, 44), (5148, 45), (5144, 6), (5080, 37), (5151, 7), (4027, 8), (10031, 20), (10035, 21), (5051, 38), (5060, 47), (5155, 48), (5063, 40), (5070, 41), (5165, 39), (10039, 22), (5066, 0), (10043, 23), (5073, 1), (10047, 24), (5077, 49), (5167, 46), (5170, 50), (5173, 51), (5131, 42), (5134, 43), (5176, 52), (5181, 62), (5238, 63), (5241, 8), (5244, 9), (5184, 54), (5203, 2), (5208, 55), (5229, 4), (5200, 13), (5212, 56), (5116, 36), (5216, 57), (5220, 58), (5223, 60), (5232, 61), (5235, 5), (5226, 59), (5188, 53), (5196, 10), (5192, 64), (5247, 65), (5265, 11), (5262, 12), (5271, 66), (5275, 67), (5250, 68), (5279, 14), (5282, 15), (5253, 69), (5256, 3), (5259, 70), (5285, 73), (5288, 71), (5292, 72), (5268, 74), (5295, 76), (5298, 77), (5301, 75), (10052, 25), (10056, 26), (10060, 27), (10064, 28), (10068, 29), (10072, 30), (10076, 31), (10080, 32), (10084, 33), (10088, 34), (10017, 79), (6074, 78), (10022, 80), (10026, 81), (10030, 85), (6085, 83), (6078, 82), (6089, 84), (6093, 93), (10034, 86), (10038, 88), (6096, 87), (10042, 91), (6099, 89), (10046, 92), (6103, 90), (10051, 97), (6126, 96), (6129, 102), (6138, 99), (6141, 100), (6145, 107), (6166, 106), (6159, 101), (6169, 108), (6149, 109), (6172, 110), (6176, 111), (6180, 112), (6113, 94), (6153, 104), (6156, 103), (6162, 105), (6132, 95), (10055, 98), (6135, 97), (10059, 113), (10063, 115), (6187, 114), (10067, 116), (10071, 117), (10075, 118), (10079, 119), (10083, 120), (10087, 121), (10091, 122)]
def fj_min : Nat := 5305
def fj_con : List (Nat × Int32) := [(5304, 1000000), (5086, -1000000001), (6183, 1000000), (6190, -1000000001)]
/-- kind, how many, 0 object of a class with fields, 1 ints so many, 2 references so many of a kind -/
def fj_K : List (Nat × Nat × Nat × Nat × Nat) := [(0, 1, 0, 2, 14), (1, 1, 1, 512, 0), (2, 1, 1, 64, 0), (3, 1, 1, 300, 0), (4, 1, 2, 12, 7), (5, 1, 2, 6, 10), (6, 1, 1, 12, 0), (7, 12, 0, 1, 12), (8, 12, 1, 24, 0), (9, 12, 1, 12, 0), (10, 6, 0, 0, 3), (11, 6, 1, 8, 0), (20, 1, 0, 3, 28), (21, 1, 1, 512, 0), (22, 1, 1, 64, 0), (23, 1, 1, 12, 0), (24, 1, 1, 12, 0), (25, 1, 1, 12, 0), (26, 1, 1, 288, 0), (27, 1, 1, 12, 0), (28, 1, 1, 144, 0), (29, 1, 1, 12, 0), (30, 1, 1, 12, 0), (31, 1, 1, 12, 0), (32, 1, 1, 12, 0), (33, 1, 1, 12, 0), (34, 1, 1, 12, 0), (35, 1, 1, 6, 0), (36, 1, 1, 6, 0), (37, 1, 1, 48, 0), (38, 1, 1, 300, 0), (39, 1, 1, 12, 0)]
def fj_F : List (Nat × Nat) := [(0, 1), (1, 2), (2, 3), (3, 4), (4, 5), (5, 6), (700, 8), (701, 9), (1000, 11), (2000, 21), (2001, 22), (2002, 23), (2003, 24), (2004, 25), (2005, 26), (2006, 27), (2007, 28), (2008, 29), (2009, 30), (2010, 31), (2011, 32), (2012, 33), (2013, 34), (2014, 35), (2015, 36), (2016, 37), (2017, 38), (2026, 39)]
def fj_cells : List (Nat × Nat) := [(0, 0), (1, 0), (2, 0), (3, 0), (4, 0), (5, 0), (6, 0), (7, 0), (7, 1), (7, 2), (7, 3), (7, 4), (7, 5), (7, 6), (7, 7), (7, 8), (7, 9), (7, 10), (7, 11), (8, 0), (8, 1), (8, 2), (8, 3), (8, 4), (8, 5), (8, 6), (8, 7), (8, 8), (8, 9), (8, 10), (8, 11), (9, 0), (9, 1), (9, 2), (9, 3), (9, 4), (9, 5), (9, 6), (9, 7), (9, 8), (9, 9), (9, 10), (9, 11), (10, 0), (10, 1), (10, 2), (10, 3), (10, 4), (10, 5), (11, 0), (11, 1), (11, 2), (11, 3), (11, 4), (11, 5), (20, 0), (21, 0), (22, 0), (23, 0), (24, 0), (25, 0), (26, 0), (27, 0), (28, 0), (29, 0), (30, 0), (31, 0), (32, 0), (33, 0), (34, 0), (35, 0), (36, 0), (37, 0), (38, 0), (39, 0)]
def fj_tkL : List Int32 := [0, 0, 1, 1, 2, 2, 2, 2, 2, 2, 2, 1, 2, 2, 2, 2, 2, 2, 2, 1, 0, 1, 0, 0, 0, 1, 1, 2, 1, 0, 1, 1, 0, 1, 0, 0, 1, 0, 0, 1, 1, 1, 0, 1, 0, 1]
def fj_gvL : List Int32 := [0, 1, 0, 2, 2, 3, 1, 1, 1, 1, 1, 1, 1, 1, 1, 1, 1, 1, 1, 1, 0, 0, 0, 0, 1, 0, 1, 0, 1, 0, 0, 0, 1, 1, 2, 2, 0, 1, 1, 0, 0, 1, 0, 0, 1, 1]
def fj_mm (k : Nat) : MethodName × ByteArray × Nat × Nat × Nat × Nat × Bool × Nat × Nat := (fj_lk k fj_ms).getD (yX0_append, cX0_append, 0, 0, 0, 0, false, 0, 0)
def fj_y (k : Nat) : MethodName := (fj_mm k).1
def fj_b (k : Nat) : ByteArray := (fj_mm k).2.1
def fj_nL (k : Nat) : Nat := (fj_mm k).2.2.1
def fj_rt (k : Nat) : Nat := (fj_mm k).2.2.2.1
def fj_ow (k : Nat) : Nat := (fj_mm k).2.2.2.2.1
def fj_na (k : Nat) : Nat := (fj_mm k).2.2.2.2.2.1
def fj_sta (k : Nat) : Bool := (fj_mm k).2.2.2.2.2.2.1
def fj_fr (k : Nat) : Nat := (fj_mm k).2.2.2.2.2.2.2.1
def fj_lc (k : Nat) : Nat := (fj_mm k).2.2.2.2.2.2.2.2
def fj_code (k pc : Nat) : Option fj_I := match fj_lk k fj_tabs with
  | some t => fj_lk pc t
  | none => none
end
section
/-! THE TABLES AGREE WITH THE CLAIM'S OWN DATA -/
theorem fj_lk_mem {α : Type} {p : Nat} {v : α} : ∀ {l : List (Nat × α)}, fj_lk p l = some v → (p, v) ∈ l
  | [], h => by simp [fj_lk] at h
  | q :: r, h => by
    unfold fj_lk at h
    cases hb : Nat.beq p q.1 with
    | true =>
      rw [hb] at h
      have hp : p = q.1 := Nat.eq_of_beq_eq_true hb
      cases h
      rw [hp]
      exact List.mem_cons_self
    | false =>
      rw [hb] at h
      exact List.mem_cons_of_mem _ (fj_lk_mem h)
/-- how long an instruction is (switches apart) -/
def fj_li : Instr → Nat
  | .bipush _ => 2
  | .sipush _ => 3
  | .ldc _ => 2
  | .ldc_w _ => 3
  | .iload _ => 2
  | .istore _ => 2
  | .iinc _ _ => 3
  | .getfield _ => 3
  | .putfield _ => 3
  | .getstatic _ => 3
  | .goto _ => 3
  | .ifCond _ _ => 3
  | .if_icmp _ _ => 3
  | .invokevirtual _ => 3
  | .invokestatic _ => 3
  | _ => 1
def fj_isw : Instr → Bool
  | .tableswitch _ _ _ _ => true
  | .lookupswitch _ _ => true
  | _ => false
def fj_rm (k : Nat) : Room := { frames := fj_fr k, cells := 0, slots := 0, locals := fj_lc k }
def fj_ret (k : Nat) : Option FieldType := match fj_rt k with
  | 0 => none
  | 1 => some .int
  | _ => some .boolean
def fj_okx (k : Nat) (pc : Nat) (e : fj_I) : Bool := match e.1 with
  | .goto off => decide ((pc : Int) + off = (e.2.2.1 : Int))
  | .ifCond _ off => decide ((pc : Int) + off = (e.2.2.1 : Int))
  | .if_icmp _ off => decide ((pc : Int) + off = (e.2.2.1 : Int))
  | .istore_n i => decide ((i : Nat) < fj_nL k)
  | .istore i => decide (i < fj_nL k)
  | .astore_n i => decide ((i : Nat) < fj_nL k)
  | .iinc i _ => decide (i < fj_nL k)
  | .ldc i => decide (i < 1000) && decide ((fj_lk (fj_ow k * 1000 + i) fj_con).map (fun v => [(v, 0)]) = some e.2.2.2)
  | .ldc_w i => decide (i < 1000) && decide ((fj_lk (fj_ow k * 1000 + i) fj_con).map (fun v => [(v, 0)]) = some e.2.2.2)
  | .getfield i => decide (i < 1000) && decide (fj_lk (fj_ow k * 1000 + i) fj_fl = some (e.2.2.1 / 100, e.2.2.1 % 100))
  | .putfield i => decide (i < 1000) && decide (fj_lk (fj_ow k * 1000 + i) fj_fl = some (e.2.2.1 / 100, e.2.2.1 % 100))
  | .getstatic i => decide (i < 1000) && decide (fj_lk (fj_ow k * 1000 + i) fj_sl = some e.2.2.1)
  | .invokevirtual i => decide (i < 1000) && decide (fj_lk (fj_ow k * 1000 + i) fj_ml = some e.2.2.1) && decide (fj_fr e.2.2.1 + 1 ≤ fj_fr k) && decide (8 + (fj_nL e.2.2.1 + 11) + fj_lc e.2.2.1 ≤ fj_lc k)
  | .invokestatic i => decide (i < 1000) && (bif Nat.beq e.2.2.1 999 then decide (fj_ow k * 1000 + i = fj_min) && decide (1 ≤ fj_fr k) && decide (8 + 13 ≤ fj_lc k) else decide (fj_lk (fj_ow k * 1000 + i) fj_ml = some e.2.2.1) && decide (fj_fr e.2.2.1 + 1 ≤ fj_fr k) && decide (8 + (fj_nL e.2.2.1 + 11) + fj_lc e.2.2.1 ≤ fj_lc k))
  | .tableswitch d lo hi offs => decide ((pc : Int) + d = (e.2.2.1 : Int)) && decide (hi = lo + e.2.2.2.length - 1) && (List.range e.2.2.2.length).all (fun i => match e.2.2.2[i]?, offs[i]? with
    | some s, some off => decide (s.1.toInt = lo + i) && decide ((pc : Int) + off = (s.2 : Int))
    | _, _ => false)
  | .lookupswitch d ps => decide ((pc : Int) + d = (e.2.2.1 : Int)) && (ps.toList.zip (ps.toList.drop 1)).all (fun (a, next) => a.1 < next.1) && decide (ps.toList.length = e.2.2.2.length) && (ps.toList.zip e.2.2.2).all (fun q => decide (q.2.1.toInt = q.1.1) && decide ((pc : Int) + q.1.2 = (q.2.2 : Int)))
  | _ => true
def fj_ok (k : Nat) (q : Nat × fj_I) : Bool := decide (decode (fj_b k) q.1 = .ok (q.2.1, q.2.2.1 - q.1)) && (fj_isw q.2.1 || decide (q.2.2.1 = q.1 + fj_li q.2.1)) && fj_okx k q.1 q.2
theorem fj_ok0 : fj_c0.all (fj_ok 0) = true := by decide +kernel
theorem fj_ok1 : fj_c1.all (fj_ok 1) = true := by decide +kernel
theorem fj_ok2 : fj_c2.all (fj_ok 2) = true := by decide +kernel
theorem fj_ok3 : fj_c3.all (fj_ok 3) = true := by decide +kernel
theorem fj_ok4 : fj_c4.all (fj_ok 4) = true := by decide +kernel
theorem fj_ok5 : fj_c5.all (fj_ok 5) = true := by decide +kernel
theorem fj_ok6 : fj_c6.all (fj_ok 6) = true := by decide +kernel
theorem fj_ok7 : fj_c7.all (fj_ok 7) = true := by decide +kernel
theorem fj_ok8 : fj_c8.all (fj_ok 8) = true := by decide +kernel
theorem fj_ok9 : fj_c9.all (fj_ok 9) = true := by decide +kernel
theorem fj_ok10 : fj_c10.all (fj_ok 10) = true := by decide +kernel
theorem fj_ok11 : fj_c11.all (fj_ok 11) = true := by decide +kernel
theorem fj_ok12 : fj_c12.all (fj_ok 12) = true := by decide +kernel
theorem fj_ok13 : fj_c13.all (fj_ok 13) = true := by decide +kernel
theorem fj_ok14 : fj_c14.all (fj_ok 14) = true := by decide +kernel
theorem fj_ok15 : fj_c15.all (fj_ok 15) = true := by decide +kernel
theorem fj_ok16 : fj_c16.all (fj_ok 16) = true := by decide +kernel
theorem fj_ok17 : fj_c17.all (fj_ok 17) = true := by decide +kernel
theorem fj_ok18 : fj_c18.all (fj_ok 18) = true := by decide +kernel
theorem fj_ok19 : fj_c19.all (fj_ok 19) = true := by decide +kernel
theorem fj_ok20 : fj_c20.all (fj_ok 20) = true := by decide +kernel
theorem fj_ok21 : fj_c21.all (fj_ok 21) = true := by decide +kernel
theorem fj_ok22 : fj_c22.all (fj_ok 22) = true := by decide +kernel
theorem fj_ok23 : fj_c23.all (fj_ok 23) = true := by decide +kernel
theorem fj_ok24 : fj_c24.all (fj_ok 24) = true := by decide +kernel
theorem fj_ok25 : fj_c25.all (fj_ok 25) = true := by decide +kernel
theorem fj_ok26 : fj_c26.all (fj_ok 26) = true := by decide +kernel
theorem fj_ok27 : fj_c27.all (fj_ok 27) = true := by decide +kernel
theorem fj_ok28 : fj_c28.all (fj_ok 28) = true := by decide +kernel
theorem fj_ok29 : fj_c29.all (fj_ok 29) = true := by decide +kernel
theorem fj_ok30 : fj_c30.all (fj_ok 30) = true := by decide +kernel
theorem fj_ok31 : fj_c31.all (fj_ok 31) = true := by decide +kernel
theorem fj_ok32 : fj_c32.all (fj_ok 32) = true := by decide +kernel
theorem fj_ok33 : fj_c33.all (fj_ok 33) = true := by decide +kernel
theorem fj_ok34 : fj_c34.all (fj_ok 34) = true := by decide +kernel
theorem fj_ok35 : fj_c35.all (fj_ok 35) = true := by decide +kernel
theorem fj_ok36 : fj_c36.all (fj_ok 36) = true := by decide +kernel
theorem fj_ok37 : fj_c37.all (fj_ok 37) = true := by decide +kernel
theorem fj_ok38 : fj_c38.all (fj_ok 38) = true := by decide +kernel
theorem fj_ok39 : fj_c39.all (fj_ok 39) = true := by decide +kernel
theorem fj_ok40 : fj_c40.all (fj_ok 40) = true := by decide +kernel
theorem fj_ok41 : fj_c41.all (fj_ok 41) = true := by decide +kernel
theorem fj_ok42 : fj_c42.all (fj_ok 42) = true := by decide +kernel
theorem fj_ok43 : fj_c43.all (fj_ok 43) = true := by decide +kernel
theorem fj_ok44 : fj_c44.all (fj_ok 44) = true := by decide +kernel
theorem fj_ok45 : fj_c45.all (fj_ok 45) = true := by decide +kernel
theorem fj_ok46 : fj_c46.all (fj_ok 46) = true := by decide +kernel
theorem fj_ok47 : fj_c47.all (fj_ok 47) = true := by decide +kernel
theorem fj_ok48 : fj_c48.all (fj_ok 48) = true := by decide +kernel
theorem fj_ok49 : fj_c49.all (fj_ok 49) = true := by decide +kernel
theorem fj_ok50 : fj_c50.all (fj_ok 50) = true := by decide +kernel
theorem fj_ok51 : fj_c51.all (fj_ok 51) = true := by decide +kernel
theorem fj_ok52 : fj_c52.all (fj_ok 52) = true := by decide +kernel
theorem fj_ok53 : fj_c53.all (fj_ok 53) = true := by decide +kernel
theorem fj_ok54 : fj_c54.all (fj_ok 54) = true := by decide +kernel
theorem fj_ok55 : fj_c55.all (fj_ok 55) = true := by decide +kernel
theorem fj_ok56 : fj_c56.all (fj_ok 56) = true := by decide +kernel
theorem fj_ok57 : fj_c57.all (fj_ok 57) = true := by decide +kernel
theorem fj_ok58 : fj_c58.all (fj_ok 58) = true := by decide +kernel
theorem fj_ok59 : fj_c59.all (fj_ok 59) = true := by decide +kernel
theorem fj_ok60 : fj_c60.all (fj_ok 60) = true := by decide +kernel
theorem fj_ok61 : fj_c61.all (fj_ok 61) = true := by decide +kernel
theorem fj_ok62 : fj_c62.all (fj_ok 62) = true := by decide +kernel
theorem fj_ok63 : fj_c63.all (fj_ok 63) = true := by decide +kernel
theorem fj_ok64 : fj_c64.all (fj_ok 64) = true := by decide +kernel
theorem fj_ok65 : fj_c65.all (fj_ok 65) = true := by decide +kernel
theorem fj_ok66 : fj_c66.all (fj_ok 66) = true := by decide +kernel
theorem fj_ok67 : fj_c67.all (fj_ok 67) = true := by decide +kernel
theorem fj_ok68 : fj_c68.all (fj_ok 68) = true := by decide +kernel
theorem fj_ok69 : fj_c69.all (fj_ok 69) = true := by decide +kernel
theorem fj_ok70 : fj_c70.all (fj_ok 70) = true := by decide +kernel
theorem fj_ok71 : fj_c71.all (fj_ok 71) = true := by decide +kernel
theorem fj_ok72 : fj_c72.all (fj_ok 72) = true := by decide +kernel
theorem fj_ok73 : fj_c73.all (fj_ok 73) = true := by decide +kernel
theorem fj_ok74 : fj_c74.all (fj_ok 74) = true := by decide +kernel
theorem fj_ok75 : fj_c75.all (fj_ok 75) = true := by decide +kernel
theorem fj_ok76 : fj_c76.all (fj_ok 76) = true := by decide +kernel
theorem fj_ok77 : fj_c77.all (fj_ok 77) = true := by decide +kernel
theorem fj_ok78 : fj_c78.all (fj_ok 78) = true := by decide +kernel
theorem fj_ok79 : fj_c79.all (fj_ok 79) = true := by decide +kernel
theorem fj_ok80 : fj_c80.all (fj_ok 80) = true := by decide +kernel
theorem fj_ok81 : fj_c81.all (fj_ok 81) = true := by decide +kernel
theorem fj_ok82 : fj_c82.all (fj_ok 82) = true := by decide +kernel
theorem fj_ok83 : fj_c83.all (fj_ok 83) = true := by decide +kernel
theorem fj_ok84 : fj_c84.all (fj_ok 84) = true := by decide +kernel
theorem fj_ok85 : fj_c85.all (fj_ok 85) = true := by decide +kernel
theorem fj_ok86 : fj_c86.all (fj_ok 86) = true := by decide +kernel
theorem fj_ok87 : fj_c87.all (fj_ok 87) = true := by decide +kernel
theorem fj_ok88 : fj_c88.all (fj_ok 88) = true := by decide +kernel
theorem fj_ok89 : fj_c89.all (fj_ok 89) = true := by decide +kernel
theorem fj_ok90 : fj_c90.all (fj_ok 90) = true := by decide +kernel
theorem fj_ok91 : fj_c91.all (fj_ok 91) = true := by decide +kernel
theorem fj_ok92 : fj_c92.all (fj_ok 92) = true := by decide +kernel
theorem fj_ok93 : fj_c93.all (fj_ok 93) = true := by decide +kernel
theorem fj_ok94 : fj_c94.all (fj_ok 94) = true := by decide +kernel
theorem fj_ok95 : fj_c95.all (fj_ok 95) = true := by decide +kernel
theorem fj_ok96 : fj_c96.all (fj_ok 96) = true := by decide +kernel
theorem fj_ok97 : fj_c97.all (fj_ok 97) = true := by decide +kernel
theorem fj_ok98 : fj_c98.all (fj_ok 98) = true := by decide +kernel
theorem fj_ok99 : fj_c99.all (fj_ok 99) = true := by decide +kernel
theorem fj_ok100 : fj_c100.all (fj_ok 100) = true := by decide +kernel
theorem fj_ok101 : fj_c101.all (fj_ok 101) = true := by decide +kernel
theorem fj_ok102 : fj_c102.all (fj_ok 102) = true := by decide +kernel
theorem fj_ok103 : fj_c103.all (fj_ok 103) = true := by decide +kernel
theorem fj_ok104 : fj_c104.all (fj_ok 104) = true := by decide +kernel
theorem fj_ok105 : fj_c105.all (fj_ok 105) = true := by decide +kernel
theorem fj_ok106 : fj_c106.all (fj_ok 106) = true := by decide +kernel
theorem fj_ok107 : fj_c107.all (fj_ok 107) = true := by decide +kernel
theorem fj_ok108 : fj_c108.all (fj_ok 108) = true := by decide +kernel
theorem fj_ok109 : fj_c109.all (fj_ok 109) = true := by decide +kernel
theorem fj_ok110 : fj_c110.all (fj_ok 110) = true := by decide +kernel
theorem fj_ok111 : fj_c111.all (fj_ok 111) = true := by decide +kernel
theorem fj_ok112 : fj_c112.all (fj_ok 112) = true := by decide +kernel
theorem fj_ok113 : fj_c113.all (fj_ok 113) = true := by decide +kernel
theorem fj_ok114 : fj_c114.all (fj_ok 114) = true := by decide +kernel
theorem fj_ok115 : fj_c115.all (fj_ok 115) = true := by decide +kernel
theorem fj_ok116 : fj_c116.all (fj_ok 116) = true := by decide +kernel
theorem fj_ok117 : fj_c117.all (fj_ok 117) = true := by decide +kernel
theorem fj_ok118 : fj_c118.all (fj_ok 118) = true := by decide +kernel
theorem fj_ok119 : fj_c119.all (fj_ok 119) = true := by decide +kernel
theorem fj_ok120 : fj_c120.all (fj_ok 120) = true := by decide +kernel
theorem fj_ok121 : fj_c121.all (fj_ok 121) = true := by decide +kernel
theorem fj_ok122 : fj_c122.all (fj_ok 122) = true := by decide +kernel
theorem fj_ok123 : fj_c123.all (fj_ok 123) = true := by decide +kernel
def fj_tabs_0 : List (Nat × List (Nat × fj_I)) := [(0, fj_c0), (1, fj_c1), (2, fj_c2), (3, fj_c3), (4, fj_c4), (5, fj_c5), (6, fj_c6), (7, fj_c7), (8, fj_c8), (9, fj_c9), (10, fj_c10), (11, fj_c11), (12, fj_c12), (13, fj_c13), (14, fj_c14), (15, fj_c15), (16, fj_c16), (17, fj_c17), (18, fj_c18), (19, fj_c19), (20, fj_c20), (21, fj_c21), (22, fj_c22), (23, fj_c23), (24, fj_c24)]
theorem fj_oks_0 : ∀ q ∈ fj_tabs_0, q.2.all (fj_ok q.1) = true := List.forall_mem_cons.mpr ⟨fj_ok0, List.forall_mem_cons.mpr ⟨fj_ok1, List.forall_mem_cons.mpr ⟨fj_ok2, List.forall_mem_cons.mpr ⟨fj_ok3, List.forall_mem_cons.mpr ⟨fj_ok4, List.forall_mem_cons.mpr ⟨fj_ok5, List.forall_mem_cons.mpr ⟨fj_ok6, List.forall_mem_cons.mpr ⟨fj_ok7, List.forall_mem_cons.mpr ⟨fj_ok8, List.forall_mem_cons.mpr ⟨fj_ok9, List.forall_mem_cons.mpr ⟨fj_ok10, List.forall_mem_cons.mpr ⟨fj_ok11, List.forall_mem_cons.mpr ⟨fj_ok12, List.forall_mem_cons.mpr ⟨fj_ok13, List.forall_mem_cons.mpr ⟨fj_ok14, List.forall_mem_cons.mpr ⟨fj_ok15, List.forall_mem_cons.mpr ⟨fj_ok16, List.forall_mem_cons.mpr ⟨fj_ok17, List.forall_mem_cons.mpr ⟨fj_ok18, List.forall_mem_cons.mpr ⟨fj_ok19, List.forall_mem_cons.mpr ⟨fj_ok20, List.forall_mem_cons.mpr ⟨fj_ok21, List.forall_mem_cons.mpr ⟨fj_ok22, List.forall_mem_cons.mpr ⟨fj_ok23, List.forall_mem_cons.mpr ⟨fj_ok24, fun _ h => absurd h List.not_mem_nil⟩⟩⟩⟩⟩⟩⟩⟩⟩⟩⟩⟩⟩⟩⟩⟩⟩⟩⟩⟩⟩⟩⟩⟩⟩
def fj_tabs_1 : List (Nat × List (Nat × fj_I)) := [(25, fj_c25), (26, fj_c26), (27, fj_c27), (28, fj_c28), (29, fj_c29), (30, fj_c30), (31, fj_c31), (32, fj_c32), (33, fj_c33), (34, fj_c34), (35, fj_c35), (36, fj_c36), (37, fj_c37), (38, fj_c38), (39, fj_c39), (40, fj_c40), (41, fj_c41), (42, fj_c42), (43, fj_c43), (44, fj_c44), (45, fj_c45), (46, fj_c46), (47, fj_c47), (48, fj_c48), (49, fj_c49)]
theorem fj_oks_1 : ∀ q ∈ fj_tabs_1, q.2.all (fj_ok q.1) = true := List.forall_mem_cons.mpr ⟨fj_ok25, List.forall_mem_cons.mpr ⟨fj_ok26, List.forall_mem_cons.mpr ⟨fj_ok27, List.forall_mem_cons.mpr ⟨fj_ok28, List.forall_mem_cons.mpr ⟨fj_ok29, List.forall_mem_cons.mpr ⟨fj_ok30, List.forall_mem_cons.mpr ⟨fj_ok31, List.forall_mem_cons.mpr ⟨fj_ok32, List.forall_mem_cons.mpr ⟨fj_ok33, List.forall_mem_cons.mpr ⟨fj_ok34, List.forall_mem_cons.mpr ⟨fj_ok35, List.forall_mem_cons.mpr ⟨fj_ok36, List.forall_mem_cons.mpr ⟨fj_ok37, List.forall_mem_cons.mpr ⟨fj_ok38, List.forall_mem_cons.mpr ⟨fj_ok39, List.forall_mem_cons.mpr ⟨fj_ok40, List.forall_mem_cons.mpr ⟨fj_ok41, List.forall_mem_cons.mpr ⟨fj_ok42, List.forall_mem_cons.mpr ⟨fj_ok43, List.forall_mem_cons.mpr ⟨fj_ok44, List.forall_mem_cons.mpr ⟨fj_ok45, List.forall_mem_cons.mpr ⟨fj_ok46, List.forall_mem_cons.mpr ⟨fj_ok47, List.forall_mem_cons.mpr ⟨fj_ok48, List.forall_mem_cons.mpr ⟨fj_ok49, fun _ h => absurd h List.not_mem_nil⟩⟩⟩⟩⟩⟩⟩⟩⟩⟩⟩⟩⟩⟩⟩⟩⟩⟩⟩⟩⟩⟩⟩⟩⟩
def fj_tabs_2 : List (Nat × List (Nat × fj_I)) := [(50, fj_c50), (51, fj_c51), (52, fj_c52), (53, fj_c53), (54, fj_c54), (55, fj_c55), (56, fj_c56), (57, fj_c57), (58, fj_c58), (59, fj_c59), (60, fj_c60), (61, fj_c61), (62, fj_c62), (63, fj_c63), (64, fj_c64), (65, fj_c65), (66, fj_c66), (67, fj_c67), (68, fj_c68), (69, fj_c69), (70, fj_c70), (71, fj_c71), (72, fj_c72), (73, fj_c73), (74, fj_c74)]
theorem fj_oks_2 : ∀ q ∈ fj_tabs_2, q.2.all (fj_ok q.1) = true := List.forall_mem_cons.mpr ⟨fj_ok50, List.forall_mem_cons.mpr ⟨fj_ok51, List.forall_mem_cons.mpr ⟨fj_ok52, List.forall_mem_cons.mpr ⟨fj_ok53, List.forall_mem_cons.mpr ⟨fj_ok54, List.forall_mem_cons.mpr ⟨fj_ok55, List.forall_mem_cons.mpr ⟨fj_ok56, List.forall_mem_cons.mpr ⟨fj_ok57, List.forall_mem_cons.mpr ⟨fj_ok58, List.forall_mem_cons.mpr ⟨fj_ok59, List.forall_mem_cons.mpr ⟨fj_ok60, List.forall_mem_cons.mpr ⟨fj_ok61, List.forall_mem_cons.mpr ⟨fj_ok62, List.forall_mem_cons.mpr ⟨fj_ok63, List.forall_mem_cons.mpr ⟨fj_ok64, List.forall_mem_cons.mpr ⟨fj_ok65, List.forall_mem_cons.mpr ⟨fj_ok66, List.forall_mem_cons.mpr ⟨fj_ok67, List.forall_mem_cons.mpr ⟨fj_ok68, List.forall_mem_cons.mpr ⟨fj_ok69, List.forall_mem_cons.mpr ⟨fj_ok70, List.forall_mem_cons.mpr ⟨fj_ok71, List.forall_mem_cons.mpr ⟨fj_ok72, List.forall_mem_cons.mpr ⟨fj_ok73, List.forall_mem_cons.mpr ⟨fj_ok74, fun _ h => absurd h List.not_mem_nil⟩⟩⟩⟩⟩⟩⟩⟩⟩⟩⟩⟩⟩⟩⟩⟩⟩⟩⟩⟩⟩⟩⟩⟩⟩
def fj_tabs_3 : List (Nat × List (Nat × fj_I)) := [(75, fj_c75), (76, fj_c76), (77, fj_c77), (78, fj_c78), (79, fj_c79), (80, fj_c80), (81, fj_c81), (82, fj_c82), (83, fj_c83), (84, fj_c84), (85, fj_c85), (86, fj_c86), (87, fj_c87), (88, fj_c88), (89, fj_c89), (90, fj_c90), (91, fj_c91), (92, fj_c92), (93, fj_c93), (94, fj_c94), (95, fj_c95), (96, fj_c96), (97, fj_c97), (98, fj_c98), (99, fj_c99)]
theorem fj_oks_3 : ∀ q ∈ fj_tabs_3, q.2.all (fj_ok q.1) = true := List.forall_mem_cons.mpr ⟨fj_ok75, List.forall_mem_cons.mpr ⟨fj_ok76, List.forall_mem_cons.mpr ⟨fj_ok77, List.forall_mem_cons.mpr ⟨fj_ok78, List.forall_mem_cons.mpr ⟨fj_ok79, List.forall_mem_cons.mpr ⟨fj_ok80, List.forall_mem_cons.mpr ⟨fj_ok81, List.forall_mem_cons.mpr ⟨fj_ok82, List.forall_mem_cons.mpr ⟨fj_ok83, List.forall_mem_cons.mpr ⟨fj_ok84, List.forall_mem_cons.mpr ⟨fj_ok85, List.forall_mem_cons.mpr ⟨fj_ok86, List.forall_mem_cons.mpr ⟨fj_ok87, List.forall_mem_cons.mpr ⟨fj_ok88, List.forall_mem_cons.mpr ⟨fj_ok89, List.forall_mem_cons.mpr ⟨fj_ok90, List.forall_mem_cons.mpr ⟨fj_ok91, List.forall_mem_cons.mpr ⟨fj_ok92, List.forall_mem_cons.mpr ⟨fj_ok93, List.forall_mem_cons.mpr ⟨fj_ok94, List.forall_mem_cons.mpr ⟨fj_ok95, List.forall_mem_cons.mpr ⟨fj_ok96, List.forall_mem_cons.mpr ⟨fj_ok97, List.forall_mem_cons.mpr ⟨fj_ok98, List.forall_mem_cons.mpr ⟨fj_ok99, fun _ h => absurd h List.not_mem_nil⟩⟩⟩⟩⟩⟩⟩⟩⟩⟩⟩⟩⟩⟩⟩⟩⟩⟩⟩⟩⟩⟩⟩⟩⟩
def fj_tabs_4 : List (Nat × List (Nat × fj_I)) := [(100, fj_c100), (101, fj_c101), (102, fj_c102), (103, fj_c103), (104, fj_c104), (105, fj_c105), (106, fj_c106), (107, fj_c107), (108, fj_c108), (109, fj_c109), (110, fj_c110), (111, fj_c111), (112, fj_c112), (113, fj_c113), (114, fj_c114), (115, fj_c115), (116, fj_c116), (117, fj_c117), (118, fj_c118), (119, fj_c119), (120, fj_c120), (121, fj_c121), (122, fj_c122), (123, fj_c123)]
theorem fj_oks_4 : ∀ q ∈ fj_tabs_4, q.2.all (fj_ok q.1) = true := List.forall_mem_cons.mpr ⟨fj_ok100, List.forall_mem_cons.mpr ⟨fj_ok101, List.forall_mem_cons.mpr ⟨fj_ok102, List.forall_mem_cons.mpr ⟨fj_ok103, List.forall_mem_cons.mpr ⟨fj_ok104, List.forall_mem_cons.mpr ⟨fj_ok105, List.forall_mem_cons.mpr ⟨fj_ok106, List.forall_mem_cons.mpr ⟨fj_ok107, List.forall_mem_cons.mpr ⟨fj_ok108, List.forall_mem_cons.mpr ⟨fj_ok109, List.forall_mem_cons.mpr ⟨fj_ok110, List.forall_mem_cons.mpr ⟨fj_ok111, List.forall_mem_cons.mpr ⟨fj_ok112, List.forall_mem_cons.mpr ⟨fj_ok113, List.forall_mem_cons.mpr ⟨fj_ok114, List.forall_mem_cons.mpr ⟨fj_ok115, List.forall_mem_cons.mpr ⟨fj_ok116, List.forall_mem_cons.mpr ⟨fj_ok117, List.forall_mem_cons.mpr ⟨fj_ok118, List.forall_mem_cons.mpr ⟨fj_ok119, List.forall_mem_cons.mpr ⟨fj_ok120, List.forall_mem_cons.mpr ⟨fj_ok121, List.forall_mem_cons.mpr ⟨fj_ok122, List.forall_mem_cons.mpr ⟨fj_ok123, fun _ h => absurd h List.not_mem_nil⟩⟩⟩⟩⟩⟩⟩⟩⟩⟩⟩⟩⟩⟩⟩⟩⟩⟩⟩⟩⟩⟩⟩⟩
theorem fj_tabs_eq : fj_tabs = fj_tabs_0 ++ (fj_tabs_1 ++ (fj_tabs_2 ++ (fj_tabs_3 ++ (fj_tabs_4)))) := rfl
theorem fj_oks : ∀ q ∈ fj_tabs, q.2.all (fj_ok q.1) = true := by
  rw [fj_tabs_eq]
  exact List.forall_mem_append.mpr ⟨fj_oks_0, List.forall_mem_append.mpr ⟨fj_oks_1, List.forall_mem_append.mpr ⟨fj_oks_2, List.forall_mem_append.mpr ⟨fj_oks_3, fj_oks_4⟩⟩⟩⟩
set_option maxRecDepth 40000 in
theorem fj_code_ok {k pc : Nat} {e : fj_I} (h : fj_code k pc = some e) : fj_ok k (pc, e) = true := by
  unfold fj_code at h
  cases ht : fj_lk k fj_tabs with
  | none => rw [ht] at h; cases h
  | some t =>
    rw [ht] at h
    have h1 := fj_oks _ (fj_lk_mem ht)
    exact List.all_eq_true.mp h1 _ (fj_lk_mem h)
theorem fj_dc {k pc : Nat} {e : fj_I} (h : fj_code k pc = some e) (hs : fj_isw e.1 = false) : decode (fj_b k) pc = .ok (e.1, fj_li e.1) ∧ e.2.1 = pc + fj_li e.1 := by
  have h1 := fj_code_ok h
  simp only [fj_ok, hs, Bool.and_eq_true, Bool.or_eq_true, decide_eq_true_eq, Bool.false_eq_true, false_or] at h1
  obtain ⟨⟨h2, h3⟩, -⟩ := h1
  refine ⟨?_, h3⟩
  rw [h2, h3]
  simp
theorem fj_dx {k pc : Nat} {e : fj_I} (h : fj_code k pc = some e) : fj_okx k pc e = true := by
  have h1 := fj_code_ok h
  simp only [fj_ok, Bool.and_eq_true] at h1
  exact h1.2
end
section
/-- the tables' good words -/
def fj_tb : List Cond := lw_tbl.filter goodWord
theorem fj_tb_good : GoodIn fj_tb fj_tb := fun w h => ⟨h, good_of_word (List.mem_filter.mp h).2⟩
theorem fj_tb_of {w : Cond} (h : w ∈ lw_tbl) (hg : goodWord w = true) : w ∈ fj_tb := List.mem_filter.mpr ⟨h, hg⟩
theorem fj_tb_lw {w : Cond} (h : w ∈ fj_tb) : w ∈ lw_tbl := (List.mem_filter.mp h).1
def fj_Rn (o : Nat) : String := match o with
  | 0 => RX0
  | 2 => RX2
  | 4 => RX4
  | 5 => RX5
  | 6 => RX6
  | 9 => RJ9
  | _ => RL
theorem fj_in {w : Cond} (i : Nat) (h : lw_tbl[i]? = some w) (hg : goodWord w = true) : w ∈ fj_tb := fj_tb_of (List.mem_of_getElem? h) hg
/-- a call's words -/
def fj_mW (q : Nat × Nat) : Prop := Cond.methodLink (fj_Rn (q.1 / 1000)) (q.1 % 1000) (fj_y q.2) ∈ fj_tb ∧ Cond.initialized (fj_y q.2).cls ∈ fj_tb ∧ (match fj_sta q.2 with
  | true => Cond.static (fj_y q.2) ∈ fj_tb
  | false => Cond.instanceMethod (fj_y q.2) ∈ fj_tb ∧ Cond.selects (fj_y q.2).cls (fj_y q.2) (fj_y q.2) ∈ fj_tb)
def fj_mlC (q : Nat × Nat) : Bool :=
  decide ((fj_y q.2).cls ≠ "java/lang/invoke/MethodHandle") && decide ((fj_y q.2).cls ≠ "java/lang/invoke/VarHandle")
  && decide ((parseMethodDescriptor (fj_y q.2).desc).map (fun d => d.parameters.length) = some (bif fj_sta q.2 then fj_na q.2 else fj_na q.2 - 1))
  && plainName (fj_y q.2).cls && decide (fj_na q.2 ≤ fj_nL q.2) && decide ((fj_y q.2).cls = fj_Rn (fj_ow q.2)) && decide (q.2 < 123)
theorem fj_mlC_ok : fj_ml.all fj_mlC = true := by decide +kernel
set_option maxRecDepth 40000 in
theorem fj_mw_10013 : fj_mW (10013, 16) := ⟨fj_in 184 rfl rfl, fj_in 52 rfl rfl, ⟨fj_in 185 rfl rfl, fj_in 186 rfl rfl⟩⟩
set_option maxRecDepth 40000 in
theorem fj_mw_5043 : fj_mW (5043, 35) := ⟨fj_in 188 rfl rfl, fj_in 52 rfl rfl, fj_in 189 rfl rfl⟩
set_option maxRecDepth 40000 in
theorem fj_mw_10018 : fj_mW (10018, 17) := ⟨fj_in 191 rfl rfl, fj_in 52 rfl rfl, ⟨fj_in 192 rfl rfl, fj_in 193 rfl rfl⟩⟩
set_option maxRecDepth 40000 in
theorem fj_mw_10023 : fj_mW (10023, 18) := ⟨fj_in 195 rfl rfl, fj_in 52 rfl rfl, ⟨fj_in 196 rfl rfl, fj_in 197 rfl rfl⟩⟩
set_option maxRecDepth 40000 in
theorem fj_mw_10027 : fj_mW (10027, 19) := ⟨fj_in 199 rfl rfl, fj_in 52 rfl rfl, ⟨fj_in 200 rfl rfl, fj_in 201 rfl rfl⟩⟩
set_option maxRecDepth 40000 in
theorem fj_mw_5047 : fj_mW (5047, 44) := ⟨fj_in 203 rfl rfl, fj_in 52 rfl rfl, ⟨fj_in 205 rfl rfl, fj_in 0 rfl rfl⟩⟩
set_option maxRecDepth 40000 in
theorem fj_mw_5148 : fj_mW (5148, 45) := ⟨fj_in 207 rfl rfl, fj_in 52 rfl rfl, ⟨fj_in 209 rfl rfl, fj_in 1 rfl rfl⟩⟩
set_option maxRecDepth 40000 in
theorem fj_mw_5144 : fj_mW (5144, 6) := ⟨fj_in 211 rfl rfl, fj_in 53 rfl rfl, ⟨fj_in 212 rfl rfl, fj_in 213 rfl rfl⟩⟩
set_option maxRecDepth 40000 in
theorem fj_mw_5080 : fj_mW (5080, 37) := ⟨fj_in 215 rfl rfl, fj_in 52 rfl rfl, fj_in 216 rfl rfl⟩
set_option maxRecDepth 40000 in
theorem fj_mw_5151 : fj_mW (5151, 7) := ⟨fj_in 218 rfl rfl, fj_in 53 rfl rfl, ⟨fj_in 219 rfl rfl, fj_in 220 rfl rfl⟩⟩
set_option maxRecDepth 40000 in
theorem fj_mw_4027 : fj_mW (4027, 8) := ⟨fj_in 222 rfl rfl, fj_in 53 rfl rfl, ⟨fj_in 223 rfl rfl, fj_in 224 rfl rfl⟩⟩
set_option maxRecDepth 40000 in
theorem fj_mw_10031 : fj_mW (10031, 20) := ⟨fj_in 226 rfl rfl, fj_in 52 rfl rfl, ⟨fj_in 227 rfl rfl, fj_in 228 rfl rfl⟩⟩
set_option maxRecDepth 40000 in
theorem fj_mw_10035 : fj_mW (10035, 21) := ⟨fj_in 230 rfl rfl, fj_in 52 rfl rfl, ⟨fj_in 231 rfl rfl, fj_in 232 rfl rfl⟩⟩
set_option maxRecDepth 40000 in
theorem fj_mw_5051 : fj_mW (5051, 38) := ⟨fj_in 234 rfl rfl, fj_in 52 rfl rfl, fj_in 235 rfl rfl⟩
set_option maxRecDepth 40000 in
theorem fj_mw_5060 : fj_mW (5060, 47) := ⟨fj_in 237 rfl rfl, fj_in 52 rfl rfl, ⟨fj_in 239 rfl rfl, fj_in 2 rfl rfl⟩⟩
set_option maxRecDepth 40000 in
theorem fj_mw_5155 : fj_mW (5155, 48) := ⟨fj_in 241 rfl rfl, fj_in 52 rfl rfl, ⟨fj_in 243 rfl rfl, fj_in 3 rfl rfl⟩⟩
set_option maxRecDepth 40000 in
theorem fj_mw_5063 : fj_mW (5063, 40) := ⟨fj_in 245 rfl rfl, fj_in 52 rfl rfl, ⟨fj_in 247 rfl rfl, fj_in 4 rfl rfl⟩⟩
set_option maxRecDepth 40000 in
theorem fj_mw_5070 : fj_mW (5070, 41) := ⟨fj_in 249 rfl rfl, fj_in 52 rfl rfl, ⟨fj_in 251 rfl rfl, fj_in 5 rfl rfl⟩⟩
set_option maxRecDepth 40000 in
theorem fj_mw_5165 : fj_mW (5165, 39) := ⟨fj_in 253 rfl rfl, fj_in 52 rfl rfl, ⟨fj_in 255 rfl rfl, fj_in 6 rfl rfl⟩⟩
set_option maxRecDepth 40000 in
theorem fj_mw_10039 : fj_mW (10039, 22) := ⟨fj_in 257 rfl rfl, fj_in 52 rfl rfl, ⟨fj_in 258 rfl rfl, fj_in 259 rfl rfl⟩⟩
set_option maxRecDepth 40000 in
theorem fj_mw_5066 : fj_mW (5066, 0) := ⟨fj_in 261 rfl rfl, fj_in 54 rfl rfl, ⟨fj_in 262 rfl rfl, fj_in 263 rfl rfl⟩⟩
set_option maxRecDepth 40000 in
theorem fj_mw_10043 : fj_mW (10043, 23) := ⟨fj_in 265 rfl rfl, fj_in 52 rfl rfl, ⟨fj_in 266 rfl rfl, fj_in 267 rfl rfl⟩⟩
set_option maxRecDepth 40000 in
theorem fj_mw_5073 : fj_mW (5073, 1) := ⟨fj_in 269 rfl rfl, fj_in 54 rfl rfl, ⟨fj_in 270 rfl rfl, fj_in 271 rfl rfl⟩⟩
set_option maxRecDepth 40000 in
theorem fj_mw_10047 : fj_mW (10047, 24) := ⟨fj_in 273 rfl rfl, fj_in 52 rfl rfl, ⟨fj_in 274 rfl rfl, fj_in 275 rfl rfl⟩⟩
set_option maxRecDepth 40000 in
theorem fj_mw_5077 : fj_mW (5077, 49) := ⟨fj_in 277 rfl rfl, fj_in 52 rfl rfl, ⟨fj_in 279 rfl rfl, fj_in 7 rfl rfl⟩⟩
set_option maxRecDepth 40000 in
theorem fj_mw_5167 : fj_mW (5167, 46) := ⟨fj_in 281 rfl rfl, fj_in 52 rfl rfl, ⟨fj_in 283 rfl rfl, fj_in 8 rfl rfl⟩⟩
set_option maxRecDepth 40000 in
theorem fj_mw_5170 : fj_mW (5170, 50) := ⟨fj_in 285 rfl rfl, fj_in 52 rfl rfl, ⟨fj_in 287 rfl rfl, fj_in 9 rfl rfl⟩⟩
set_option maxRecDepth 40000 in
theorem fj_mw_5173 : fj_mW (5173, 51) := ⟨fj_in 289 rfl rfl, fj_in 52 rfl rfl, ⟨fj_in 291 rfl rfl, fj_in 10 rfl rfl⟩⟩
set_option maxRecDepth 40000 in
theorem fj_mw_5131 : fj_mW (5131, 42) := ⟨fj_in 293 rfl rfl, fj_in 52 rfl rfl, ⟨fj_in 295 rfl rfl, fj_in 11 rfl rfl⟩⟩
set_option maxRecDepth 40000 in
theorem fj_mw_5134 : fj_mW (5134, 43) := ⟨fj_in 297 rfl rfl, fj_in 52 rfl rfl, ⟨fj_in 299 rfl rfl, fj_in 12 rfl rfl⟩⟩
set_option maxRecDepth 40000 in
theorem fj_mw_5176 : fj_mW (5176, 52) := ⟨fj_in 301 rfl rfl, fj_in 52 rfl rfl, ⟨fj_in 303 rfl rfl, fj_in 13 rfl rfl⟩⟩
set_option maxRecDepth 40000 in
theorem fj_mw_5181 : fj_mW (5181, 62) := ⟨fj_in 305 rfl rfl, fj_in 52 rfl rfl, ⟨fj_in 307 rfl rfl, fj_in 14 rfl rfl⟩⟩
set_option maxRecDepth 40000 in
theorem fj_mw_5238 : fj_mW (5238, 63) := ⟨fj_in 309 rfl rfl, fj_in 52 rfl rfl, ⟨fj_in 311 rfl rfl, fj_in 15 rfl rfl⟩⟩
set_option maxRecDepth 40000 in
theorem fj_mw_5241 : fj_mW (5241, 8) := ⟨fj_in 313 rfl rfl, fj_in 53 rfl rfl, ⟨fj_in 223 rfl rfl, fj_in 224 rfl rfl⟩⟩
set_option maxRecDepth 40000 in
theorem fj_mw_5244 : fj_mW (5244, 9) := ⟨fj_in 314 rfl rfl, fj_in 53 rfl rfl, ⟨fj_in 315 rfl rfl, fj_in 316 rfl rfl⟩⟩
set_option maxRecDepth 40000 in
theorem fj_mw_5184 : fj_mW (5184, 54) := ⟨fj_in 318 rfl rfl, fj_in 52 rfl rfl, ⟨fj_in 320 rfl rfl, fj_in 16 rfl rfl⟩⟩
set_option maxRecDepth 40000 in
theorem fj_mw_5203 : fj_mW (5203, 2) := ⟨fj_in 322 rfl rfl, fj_in 56 rfl rfl, fj_in 323 rfl rfl⟩
set_option maxRecDepth 40000 in
theorem fj_mw_5208 : fj_mW (5208, 55) := ⟨fj_in 325 rfl rfl, fj_in 52 rfl rfl, fj_in 326 rfl rfl⟩
set_option maxRecDepth 40000 in
theorem fj_mw_5229 : fj_mW (5229, 4) := ⟨fj_in 328 rfl rfl, fj_in 56 rfl rfl, fj_in 329 rfl rfl⟩
set_option maxRecDepth 40000 in
theorem fj_mw_5200 : fj_mW (5200, 13) := ⟨fj_in 333 rfl rfl, fj_in 53 rfl rfl, ⟨fj_in 334 rfl rfl, fj_in 335 rfl rfl⟩⟩
set_option maxRecDepth 40000 in
theorem fj_mw_5212 : fj_mW (5212, 56) := ⟨fj_in 337 rfl rfl, fj_in 52 rfl rfl, fj_in 338 rfl rfl⟩
set_option maxRecDepth 40000 in
theorem fj_mw_5116 : fj_mW (5116, 36) := ⟨fj_in 340 rfl rfl, fj_in 52 rfl rfl, fj_in 341 rfl rfl⟩
set_option maxRecDepth 40000 in
theorem fj_mw_5216 : fj_mW (5216, 57) := ⟨fj_in 343 rfl rfl, fj_in 52 rfl rfl, fj_in 344 rfl rfl⟩
set_option maxRecDepth 40000 in
theorem fj_mw_5220 : fj_mW (5220, 58) := ⟨fj_in 346 rfl rfl, fj_in 52 rfl rfl, ⟨fj_in 348 rfl rfl, fj_in 17 rfl rfl⟩⟩
set_option maxRecDepth 40000 in
theorem fj_mw_5223 : fj_mW (5223, 60) := ⟨fj_in 350 rfl rfl, fj_in 52 rfl rfl, ⟨fj_in 352 rfl rfl, fj_in 18 rfl rfl⟩⟩
set_option maxRecDepth 40000 in
theorem fj_mw_5232 : fj_mW (5232, 61) := ⟨fj_in 354 rfl rfl, fj_in 52 rfl rfl, ⟨fj_in 356 rfl rfl, fj_in 19 rfl rfl⟩⟩
set_option maxRecDepth 40000 in
theorem fj_mw_5235 : fj_mW (5235, 5) := ⟨fj_in 358 rfl rfl, fj_in 56 rfl rfl, fj_in 359 rfl rfl⟩
set_option maxRecDepth 40000 in
theorem fj_mw_5226 : fj_mW (5226, 59) := ⟨fj_in 363 rfl rfl, fj_in 52 rfl rfl, ⟨fj_in 365 rfl rfl, fj_in 20 rfl rfl⟩⟩
set_option maxRecDepth 40000 in
theorem fj_mw_5188 : fj_mW (5188, 53) := ⟨fj_in 367 rfl rfl, fj_in 52 rfl rfl, ⟨fj_in 369 rfl rfl, fj_in 21 rfl rfl⟩⟩
set_option maxRecDepth 40000 in
theorem fj_mw_5196 : fj_mW (5196, 10) := ⟨fj_in 371 rfl rfl, fj_in 53 rfl rfl, ⟨fj_in 372 rfl rfl, fj_in 373 rfl rfl⟩⟩
set_option maxRecDepth 40000 in
theorem fj_mw_5192 : fj_mW (5192, 64) := ⟨fj_in 375 rfl rfl, fj_in 52 rfl rfl, ⟨fj_in 377 rfl rfl, fj_in 22 rfl rfl⟩⟩
set_option maxRecDepth 40000 in
theorem fj_mw_5247 : fj_mW (5247, 65) := ⟨fj_in 379 rfl rfl, fj_in 52 rfl rfl, fj_in 380 rfl rfl⟩
set_option maxRecDepth 40000 in
theorem fj_mw_5265 : fj_mW (5265, 11) := ⟨fj_in 382 rfl rfl, fj_in 53 rfl rfl, ⟨fj_in 383 rfl rfl, fj_in 384 rfl rfl⟩⟩
set_option maxRecDepth 40000 in
theorem fj_mw_5262 : fj_mW (5262, 12) := ⟨fj_in 386 rfl rfl, fj_in 53 rfl rfl, ⟨fj_in 387 rfl rfl, fj_in 388 rfl rfl⟩⟩
set_option maxRecDepth 40000 in
theorem fj_mw_5271 : fj_mW (5271, 66) := ⟨fj_in 390 rfl rfl, fj_in 52 rfl rfl, fj_in 391 rfl rfl⟩
set_option maxRecDepth 40000 in
theorem fj_mw_5275 : fj_mW (5275, 67) := ⟨fj_in 393 rfl rfl, fj_in 52 rfl rfl, fj_in 394 rfl rfl⟩
set_option maxRecDepth 40000 in
theorem fj_mw_5250 : fj_mW (5250, 68) := ⟨fj_in 396 rfl rfl, fj_in 52 rfl rfl, fj_in 397 rfl rfl⟩
set_option maxRecDepth 40000 in
theorem fj_mw_5279 : fj_mW (5279, 14) := ⟨fj_in 399 rfl rfl, fj_in 53 rfl rfl, ⟨fj_in 400 rfl rfl, fj_in 401 rfl rfl⟩⟩
set_option maxRecDepth 40000 in
theorem fj_mw_5282 : fj_mW (5282, 15) := ⟨fj_in 403 rfl rfl, fj_in 53 rfl rfl, ⟨fj_in 404 rfl rfl, fj_in 405 rfl rfl⟩⟩
set_option maxRecDepth 40000 in
theorem fj_mw_5253 : fj_mW (5253, 69) := ⟨fj_in 407 rfl rfl, fj_in 52 rfl rfl, ⟨fj_in 409 rfl rfl, fj_in 23 rfl rfl⟩⟩
set_option maxRecDepth 40000 in
theorem fj_mw_5256 : fj_mW (5256, 3) := ⟨fj_in 411 rfl rfl, fj_in 56 rfl rfl, fj_in 412 rfl rfl⟩
set_option maxRecDepth 40000 in
theorem fj_mw_5259 : fj_mW (5259, 70) := ⟨fj_in 414 rfl rfl, fj_in 52 rfl rfl, ⟨fj_in 416 rfl rfl, fj_in 24 rfl rfl⟩⟩
set_option maxRecDepth 40000 in
theorem fj_mw_5285 : fj_mW (5285, 73) := ⟨fj_in 418 rfl rfl, fj_in 52 rfl rfl, ⟨fj_in 420 rfl rfl, fj_in 25 rfl rfl⟩⟩
set_option maxRecDepth 40000 in
theorem fj_mw_5288 : fj_mW (5288, 71) := ⟨fj_in 422 rfl rfl, fj_in 52 rfl rfl, ⟨fj_in 424 rfl rfl, fj_in 26 rfl rfl⟩⟩
set_option maxRecDepth 40000 in
theorem fj_mw_5292 : fj_mW (5292, 72) := ⟨fj_in 426 rfl rfl, fj_in 52 rfl rfl, ⟨fj_in 428 rfl rfl, fj_in 27 rfl rfl⟩⟩
set_option maxRecDepth 40000 in
theorem fj_mw_5268 : fj_mW (5268, 74) := ⟨fj_in 430 rfl rfl, fj_in 52 rfl rfl, ⟨fj_in 432 rfl rfl, fj_in 28 rfl rfl⟩⟩
set_option maxRecDepth 40000 in
theorem fj_mw_5295 : fj_mW (5295, 76) := ⟨fj_in 434 rfl rfl, fj_in 52 rfl rfl, ⟨fj_in 436 rfl rfl, fj_in 29 rfl rfl⟩⟩
set_option maxRecDepth 40000 in
theorem fj_mw_5298 : fj_mW (5298, 77) := ⟨fj_in 442 rfl rfl, fj_in 52 rfl rfl, ⟨fj_in 444 rfl rfl, fj_in 30 rfl rfl⟩⟩
set_option maxRecDepth 40000 in
theorem fj_mw_5301 : fj_mW (5301, 75) := ⟨fj_in 446 rfl rfl, fj_in 52 rfl rfl, ⟨fj_in 448 rfl rfl, fj_in 31 rfl rfl⟩⟩
set_option maxRecDepth 40000 in
theorem fj_mw_10052 : fj_mW (10052, 25) := ⟨fj_in 450 rfl rfl, fj_in 52 rfl rfl, ⟨fj_in 451 rfl rfl, fj_in 452 rfl rfl⟩⟩
set_option maxRecDepth 40000 in
theorem fj_mw_10056 : fj_mW (10056, 26) := ⟨fj_in 454 rfl rfl, fj_in 52 rfl rfl, ⟨fj_in 455 rfl rfl, fj_in 456 rfl rfl⟩⟩
set_option maxRecDepth 40000 in
theorem fj_mw_10060 : fj_mW (10060, 27) := ⟨fj_in 458 rfl rfl, fj_in 52 rfl rfl, ⟨fj_in 459 rfl rfl, fj_in 460 rfl rfl⟩⟩
set_option maxRecDepth 40000 in
theorem fj_mw_10064 : fj_mW (10064, 28) := ⟨fj_in 462 rfl rfl, fj_in 52 rfl rfl, ⟨fj_in 463 rfl rfl, fj_in 464 rfl rfl⟩⟩
set_option maxRecDepth 40000 in
theorem fj_mw_10068 : fj_mW (10068, 29) := ⟨fj_in 467 rfl rfl, fj_in 52 rfl rfl, ⟨fj_in 468 rfl rfl, fj_in 469 rfl rfl⟩⟩
set_option maxRecDepth 40000 in
theorem fj_mw_10072 : fj_mW (10072, 30) := ⟨fj_in 471 rfl rfl, fj_in 52 rfl rfl, ⟨fj_in 472 rfl rfl, fj_in 473 rfl rfl⟩⟩
set_option maxRecDepth 40000 in
theorem fj_mw_10076 : fj_mW (10076, 31) := ⟨fj_in 475 rfl rfl, fj_in 52 rfl rfl, ⟨fj_in 476 rfl rfl, fj_in 477 rfl rfl⟩⟩
set_option maxRecDepth 40000 in
theorem fj_mw_10080 : fj_mW (10080, 32) := ⟨fj_in 479 rfl rfl, fj_in 52 rfl rfl, ⟨fj_in 480 rfl rfl, fj_in 481 rfl rfl⟩⟩
set_option maxRecDepth 40000 in
theorem fj_mw_10084 : fj_mW (10084, 33) := ⟨fj_in 483 rfl rfl, fj_in 52 rfl rfl, ⟨fj_in 484 rfl rfl, fj_in 485 rfl rfl⟩⟩
set_option maxRecDepth 40000 in
theorem fj_mw_10088 : fj_mW (10088, 34) := ⟨fj_in 487 rfl rfl, fj_in 52 rfl rfl, ⟨fj_in 488 rfl rfl, fj_in 489 rfl rfl⟩⟩
set_option maxRecDepth 40000 in
theorem fj_mw_10017 : fj_mW (10017, 79) := ⟨fj_in 582 rfl rfl, fj_in 55 rfl rfl, ⟨fj_in 583 rfl rfl, fj_in 584 rfl rfl⟩⟩
set_option maxRecDepth 40000 in
theorem fj_mw_6074 : fj_mW (6074, 78) := ⟨fj_in 586 rfl rfl, fj_in 55 rfl rfl, fj_in 587 rfl rfl⟩
set_option maxRecDepth 40000 in
theorem fj_mw_10022 : fj_mW (10022, 80) := ⟨fj_in 589 rfl rfl, fj_in 55 rfl rfl, ⟨fj_in 590 rfl rfl, fj_in 591 rfl rfl⟩⟩
set_option maxRecDepth 40000 in
theorem fj_mw_10026 : fj_mW (10026, 81) := ⟨fj_in 593 rfl rfl, fj_in 55 rfl rfl, ⟨fj_in 594 rfl rfl, fj_in 595 rfl rfl⟩⟩
set_option maxRecDepth 40000 in
theorem fj_mw_10030 : fj_mW (10030, 85) := ⟨fj_in 597 rfl rfl, fj_in 55 rfl rfl, ⟨fj_in 598 rfl rfl, fj_in 599 rfl rfl⟩⟩
set_option maxRecDepth 40000 in
theorem fj_mw_6085 : fj_mW (6085, 83) := ⟨fj_in 601 rfl rfl, fj_in 55 rfl rfl, ⟨fj_in 603 rfl rfl, fj_in 32 rfl rfl⟩⟩
set_option maxRecDepth 40000 in
theorem fj_mw_6078 : fj_mW (6078, 82) := ⟨fj_in 605 rfl rfl, fj_in 55 rfl rfl, ⟨fj_in 607 rfl rfl, fj_in 33 rfl rfl⟩⟩
set_option maxRecDepth 40000 in
theorem fj_mw_6089 : fj_mW (6089, 84) := ⟨fj_in 609 rfl rfl, fj_in 55 rfl rfl, ⟨fj_in 611 rfl rfl, fj_in 34 rfl rfl⟩⟩
set_option maxRecDepth 40000 in
theorem fj_mw_6093 : fj_mW (6093, 93) := ⟨fj_in 613 rfl rfl, fj_in 55 rfl rfl, ⟨fj_in 615 rfl rfl, fj_in 35 rfl rfl⟩⟩
set_option maxRecDepth 40000 in
theorem fj_mw_10034 : fj_mW (10034, 86) := ⟨fj_in 617 rfl rfl, fj_in 55 rfl rfl, ⟨fj_in 618 rfl rfl, fj_in 619 rfl rfl⟩⟩
set_option maxRecDepth 40000 in
theorem fj_mw_10038 : fj_mW (10038, 88) := ⟨fj_in 621 rfl rfl, fj_in 55 rfl rfl, ⟨fj_in 622 rfl rfl, fj_in 623 rfl rfl⟩⟩
set_option maxRecDepth 40000 in
theorem fj_mw_6096 : fj_mW (6096, 87) := ⟨fj_in 625 rfl rfl, fj_in 55 rfl rfl, fj_in 626 rfl rfl⟩
set_option maxRecDepth 40000 in
theorem fj_mw_10042 : fj_mW (10042, 91) := ⟨fj_in 628 rfl rfl, fj_in 55 rfl rfl, ⟨fj_in 629 rfl rfl, fj_in 630 rfl rfl⟩⟩
set_option maxRecDepth 40000 in
theorem fj_mw_6099 : fj_mW (6099, 89) := ⟨fj_in 632 rfl rfl, fj_in 55 rfl rfl, ⟨fj_in 634 rfl rfl, fj_in 36 rfl rfl⟩⟩
set_option maxRecDepth 40000 in
theorem fj_mw_10046 : fj_mW (10046, 92) := ⟨fj_in 636 rfl rfl, fj_in 55 rfl rfl, ⟨fj_in 637 rfl rfl, fj_in 638 rfl rfl⟩⟩
set_option maxRecDepth 40000 in
theorem fj_mw_6103 : fj_mW (6103, 90) := ⟨fj_in 640 rfl rfl, fj_in 55 rfl rfl, ⟨fj_in 642 rfl rfl, fj_in 37 rfl rfl⟩⟩
set_option maxRecDepth 40000 in
theorem fj_mw_10051 : fj_mW (10051, 97) := ⟨fj_in 644 rfl rfl, fj_in 55 rfl rfl, ⟨fj_in 645 rfl rfl, fj_in 646 rfl rfl⟩⟩
set_option maxRecDepth 40000 in
theorem fj_mw_6126 : fj_mW (6126, 96) := ⟨fj_in 648 rfl rfl, fj_in 55 rfl rfl, ⟨fj_in 650 rfl rfl, fj_in 38 rfl rfl⟩⟩
set_option maxRecDepth 40000 in
theorem fj_mw_6129 : fj_mW (6129, 102) := ⟨fj_in 652 rfl rfl, fj_in 55 rfl rfl, ⟨fj_in 654 rfl rfl, fj_in 39 rfl rfl⟩⟩
set_option maxRecDepth 40000 in
theorem fj_mw_6138 : fj_mW (6138, 99) := ⟨fj_in 656 rfl rfl, fj_in 55 rfl rfl, fj_in 657 rfl rfl⟩
set_option maxRecDepth 40000 in
theorem fj_mw_6141 : fj_mW (6141, 100) := ⟨fj_in 659 rfl rfl, fj_in 55 rfl rfl, ⟨fj_in 661 rfl rfl, fj_in 40 rfl rfl⟩⟩
set_option maxRecDepth 40000 in
theorem fj_mw_6145 : fj_mW (6145, 107) := ⟨fj_in 663 rfl rfl, fj_in 55 rfl rfl, ⟨fj_in 665 rfl rfl, fj_in 41 rfl rfl⟩⟩
set_option maxRecDepth 40000 in
theorem fj_mw_6166 : fj_mW (6166, 106) := ⟨fj_in 667 rfl rfl, fj_in 55 rfl rfl, ⟨fj_in 669 rfl rfl, fj_in 42 rfl rfl⟩⟩
set_option maxRecDepth 40000 in
theorem fj_mw_6159 : fj_mW (6159, 101) := ⟨fj_in 671 rfl rfl, fj_in 55 rfl rfl, ⟨fj_in 673 rfl rfl, fj_in 43 rfl rfl⟩⟩
set_option maxRecDepth 40000 in
theorem fj_mw_6169 : fj_mW (6169, 108) := ⟨fj_in 675 rfl rfl, fj_in 55 rfl rfl, fj_in 676 rfl rfl⟩
set_option maxRecDepth 40000 in
theorem fj_mw_6149 : fj_mW (6149, 109) := ⟨fj_in 678 rfl rfl, fj_in 55 rfl rfl, ⟨fj_in 680 rfl rfl, fj_in 44 rfl rfl⟩⟩
set_option maxRecDepth 40000 in
theorem fj_mw_6172 : fj_mW (6172, 110) := ⟨fj_in 682 rfl rfl, fj_in 55 rfl rfl, ⟨fj_in 684 rfl rfl, fj_in 45 rfl rfl⟩⟩
set_option maxRecDepth 40000 in
theorem fj_mw_6176 : fj_mW (6176, 111) := ⟨fj_in 686 rfl rfl, fj_in 55 rfl rfl, ⟨fj_in 688 rfl rfl, fj_in 46 rfl rfl⟩⟩
set_option maxRecDepth 40000 in
theorem fj_mw_6180 : fj_mW (6180, 112) := ⟨fj_in 690 rfl rfl, fj_in 55 rfl rfl, ⟨fj_in 692 rfl rfl, fj_in 47 rfl rfl⟩⟩
set_option maxRecDepth 40000 in
theorem fj_mw_6113 : fj_mW (6113, 94) := ⟨fj_in 695 rfl rfl, fj_in 55 rfl rfl, ⟨fj_in 697 rfl rfl, fj_in 48 rfl rfl⟩⟩
set_option maxRecDepth 40000 in
theorem fj_mw_6153 : fj_mW (6153, 104) := ⟨fj_in 699 rfl rfl, fj_in 55 rfl rfl, ⟨fj_in 701 rfl rfl, fj_in 49 rfl rfl⟩⟩
set_option maxRecDepth 40000 in
theorem fj_mw_6156 : fj_mW (6156, 103) := ⟨fj_in 703 rfl rfl, fj_in 55 rfl rfl, fj_in 704 rfl rfl⟩
set_option maxRecDepth 40000 in
theorem fj_mw_6162 : fj_mW (6162, 105) := ⟨fj_in 706 rfl rfl, fj_in 55 rfl rfl, fj_in 707 rfl rfl⟩
set_option maxRecDepth 40000 in
theorem fj_mw_6132 : fj_mW (6132, 95) := ⟨fj_in 709 rfl rfl, fj_in 55 rfl rfl, ⟨fj_in 711 rfl rfl, fj_in 50 rfl rfl⟩⟩
set_option maxRecDepth 40000 in
theorem fj_mw_10055 : fj_mW (10055, 98) := ⟨fj_in 713 rfl rfl, fj_in 55 rfl rfl, ⟨fj_in 714 rfl rfl, fj_in 715 rfl rfl⟩⟩
set_option maxRecDepth 40000 in
theorem fj_mw_6135 : fj_mW (6135, 97) := ⟨fj_in 717 rfl rfl, fj_in 55 rfl rfl, ⟨fj_in 645 rfl rfl, fj_in 646 rfl rfl⟩⟩
set_option maxRecDepth 40000 in
theorem fj_mw_10059 : fj_mW (10059, 113) := ⟨fj_in 718 rfl rfl, fj_in 55 rfl rfl, ⟨fj_in 719 rfl rfl, fj_in 720 rfl rfl⟩⟩
set_option maxRecDepth 40000 in
theorem fj_mw_10063 : fj_mW (10063, 115) := ⟨fj_in 722 rfl rfl, fj_in 55 rfl rfl, ⟨fj_in 723 rfl rfl, fj_in 724 rfl rfl⟩⟩
set_option maxRecDepth 40000 in
theorem fj_mw_6187 : fj_mW (6187, 114) := ⟨fj_in 726 rfl rfl, fj_in 55 rfl rfl, fj_in 727 rfl rfl⟩
set_option maxRecDepth 40000 in
theorem fj_mw_10067 : fj_mW (10067, 116) := ⟨fj_in 729 rfl rfl, fj_in 55 rfl rfl, ⟨fj_in 730 rfl rfl, fj_in 731 rfl rfl⟩⟩
set_option maxRecDepth 40000 in
theorem fj_mw_10071 : fj_mW (10071, 117) := ⟨fj_in 734 rfl rfl, fj_in 55 rfl rfl, ⟨fj_in 735 rfl rfl, fj_in 736 rfl rfl⟩⟩
set_option maxRecDepth 40000 in
theorem fj_mw_10075 : fj_mW (10075, 118) := ⟨fj_in 738 rfl rfl, fj_in 55 rfl rfl, ⟨fj_in 739 rfl rfl, fj_in 740 rfl rfl⟩⟩
set_option maxRecDepth 40000 in
theorem fj_mw_10079 : fj_mW (10079, 119) := ⟨fj_in 742 rfl rfl, fj_in 55 rfl rfl, ⟨fj_in 743 rfl rfl, fj_in 744 rfl rfl⟩⟩
set_option maxRecDepth 40000 in
theorem fj_mw_10083 : fj_mW (10083, 120) := ⟨fj_in 746 rfl rfl, fj_in 55 rfl rfl, ⟨fj_in 747 rfl rfl, fj_in 748 rfl rfl⟩⟩
set_option maxRecDepth 40000 in
theorem fj_mw_10087 : fj_mW (10087, 121) := ⟨fj_in 750 rfl rfl, fj_in 55 rfl rfl, ⟨fj_in 751 rfl rfl, fj_in 752 rfl rfl⟩⟩
set_option maxRecDepth 40000 in
theorem fj_mw_10091 : fj_mW (10091, 122) := ⟨fj_in 754 rfl rfl, fj_in 55 rfl rfl, ⟨fj_in 755 rfl rfl, fj_in 756 rfl rfl⟩⟩
def fj_mws_l0 : List (Nat × Nat) := [(10013, 16), (5043, 35), (10018, 17), (10023, 18), (10027, 19), (5047, 44), (5148, 45), (5144, 6), (5080, 37), (5151, 7), (4027, 8), (10031, 20), (10035, 21), (5051, 38), (5060, 47), (5155, 48), (5063, 40), (5070, 41), (5165, 39), (10039, 22), (5066, 0), (10043, 23), (5073, 1), (10047, 24), (5077, 49)]
theorem fj_mws_0 : ∀ q ∈ fj_mws_l0, fj_mW q := List.forall_mem_cons.mpr ⟨fj_mw_10013, List.forall_mem_cons.mpr ⟨fj_mw_5043, List.forall_mem_cons.mpr ⟨fj_mw_10018, List.forall_mem_cons.mpr ⟨fj_mw_10023, List.forall_mem_cons.mpr ⟨fj_mw_10027, List.forall_mem_cons.mpr ⟨fj_mw_5047, List.forall_mem_cons.mpr ⟨fj_mw_5148, List.forall_mem_cons.mpr ⟨fj_mw_5144, List.forall_mem_cons.mpr ⟨fj_mw_5080, List.forall_mem_cons.mpr ⟨fj_mw_5151, List.forall_mem_cons.mpr ⟨fj_mw_4027, List.forall_mem_cons.mpr ⟨fj_mw_10031, List.forall_mem_cons.mpr ⟨fj_mw_10035, List.forall_mem_cons.mpr ⟨fj_mw_5051, List.forall_mem_cons.mpr ⟨fj_mw_5060, List.forall_mem_cons.mpr ⟨fj_mw_5155, List.forall_mem_cons.mpr ⟨fj_mw_5063, List.forall_mem_cons.mpr ⟨fj_mw_5070, List.forall_mem_cons.mpr ⟨fj_mw_5165, List.forall_mem_cons.mpr ⟨fj_mw_10039, List.forall_mem_cons.mpr ⟨fj_mw_5066, List.forall_mem_cons.mpr ⟨fj_mw_10043, List.forall_mem_cons.mpr ⟨fj_mw_5073, List.forall_mem_cons.mpr ⟨fj_mw_10047, List.forall_mem_cons.mpr ⟨fj_mw_5077, fun _ h => absurd h List.not_mem_nil⟩⟩⟩⟩⟩⟩⟩⟩⟩⟩⟩⟩⟩⟩⟩⟩⟩⟩⟩⟩⟩⟩⟩⟩⟩
def fj_mws_l1 : List (Nat × Nat) := [(5167, 46), (5170, 50), (5173, 51), (5131, 42), (5134, 43), (5176, 52), (5181, 62), (5238, 63), (5241, 8), (5244, 9), (5184, 54), (5203, 2), (5208, 55), (5229, 4), (5200, 13), (5212, 56), (5116, 36), (5216, 57), (5220, 58), (5223, 60), (5232, 61), (5235, 5), (5226, 59), (5188, 53), (5196, 10)]
theorem fj_mws_1 : ∀ q ∈ fj_mws_l1, fj_mW q := List.forall_mem_cons.mpr ⟨fj_mw_5167, List.forall_mem_cons.mpr ⟨fj_mw_5170, List.forall_mem_cons.mpr ⟨fj_mw_5173, List.forall_mem_cons.mpr ⟨fj_mw_5131, List.forall_mem_cons.mpr ⟨fj_mw_5134, List.forall_mem_cons.mpr ⟨fj_mw_5176, List.forall_mem_cons.mpr ⟨fj_mw_5181, List.forall_mem_cons.mpr ⟨fj_mw_5238, List.forall_mem_cons.mpr ⟨fj_mw_5241, List.forall_mem_cons.mpr ⟨fj_mw_5244, List.forall_mem_cons.mpr ⟨fj_mw_5184, List.forall_mem_cons.mpr ⟨fj_mw_5203, List.forall_mem_cons.mpr ⟨fj_mw_5208, List.forall_mem_cons.mpr ⟨fj_mw_5229, List.forall_mem_cons.mpr ⟨fj_mw_5200, List.forall_mem_cons.mpr ⟨fj_mw_5212, List.forall_mem_cons.mpr ⟨fj_mw_5116, List.forall_mem_cons.mpr ⟨fj_mw_5216, List.forall_mem_cons.mpr ⟨fj_mw_5220, List.forall_mem_cons.mpr ⟨fj_mw_5223, List.forall_mem_cons.mpr ⟨fj_mw_5232, List.forall_mem_cons.mpr ⟨fj_mw_5235, List.forall_mem_cons.mpr ⟨fj_mw_5226, List.forall_mem_cons.mpr ⟨fj_mw_5188, List.forall_mem_cons.mpr ⟨fj_mw_5196, fun _ h => absurd h List.not_mem_nil⟩⟩⟩⟩⟩⟩⟩⟩⟩⟩⟩⟩⟩⟩⟩⟩⟩⟩⟩⟩⟩⟩⟩⟩⟩
def fj_mws_l2 : List (Nat × Nat) := [(5192, 64), (5247, 65), (5265, 11), (5262, 12), (5271, 66), (5275, 67), (5250, 68), (5279, 14), (5282, 15), (5253, 69), (5256, 3), (5259, 70), (5285, 73), (5288, 71), (5292, 72), (5268, 74), (5295, 76), (5298, 77), (5301, 75), (10052, 25), (10056, 26), (10060, 27), (10064, 28), (10068, 29), (10072, 30)]
theorem fj_mws_2 : ∀ q ∈ fj_mws_l2, fj_mW q := List.forall_mem_cons.mpr ⟨fj_mw_5192, List.forall_mem_cons.mpr ⟨fj_mw_5247, List.forall_mem_cons.mpr ⟨fj_mw_5265, List.forall_mem_cons.mpr ⟨fj_mw_5262, List.forall_mem_cons.mpr ⟨fj_mw_5271, List.forall_mem_cons.mpr ⟨fj_mw_5275, List.forall_mem_cons.mpr ⟨fj_mw_5250, List.forall_mem_cons.mpr ⟨fj_mw_5279, List.forall_mem_cons.mpr ⟨fj_mw_5282, List.forall_mem_cons.mpr ⟨fj_mw_5253, List.forall_mem_cons.mpr ⟨fj_mw_5256, List.forall_mem_cons.mpr ⟨fj_mw_5259, List.forall_mem_cons.mpr ⟨fj_mw_5285, List.forall_mem_cons.mpr ⟨fj_mw_5288, List.forall_mem_cons.mpr ⟨fj_mw_5292, List.forall_mem_cons.mpr ⟨fj_mw_5268, List.forall_mem_cons.mpr ⟨fj_mw_5295, List.forall_mem_cons.mpr ⟨fj_mw_5298, List.forall_mem_cons.mpr ⟨fj_mw_5301, List.forall_mem_cons.mpr ⟨fj_mw_10052, List.forall_mem_cons.mpr ⟨fj_mw_10056, List.forall_mem_cons.mpr ⟨fj_mw_10060, List.forall_mem_cons.mpr ⟨fj_mw_10064, List.forall_mem_cons.mpr ⟨fj_mw_10068, List.forall_mem_cons.mpr ⟨fj_mw_10072, fun _ h => absurd h List.not_mem_nil⟩⟩⟩⟩⟩⟩⟩⟩⟩⟩⟩⟩⟩⟩⟩⟩⟩⟩⟩⟩⟩⟩⟩⟩⟩
def fj_mws_l3 : List (Nat × Nat) := [(10076, 31), (10080, 32), (10084, 33), (10088, 34), (10017, 79), (6074, 78), (10022, 80), (10026, 81), (10030, 85), (6085, 83), (6078, 82), (6089, 84), (6093, 93), (10034, 86), (10038, 88), (6096, 87), (10042, 91), (6099, 89), (10046, 92), (6103, 90), (10051, 97), (6126, 96), (6129, 102), (6138, 99), (6141, 100)]
theorem fj_mws_3 : ∀ q ∈ fj_mws_l3, fj_mW q := List.forall_mem_cons.mpr ⟨fj_mw_10076, List.forall_mem_cons.mpr ⟨fj_mw_10080, List.forall_mem_cons.mpr ⟨fj_mw_10084, List.forall_mem_cons.mpr ⟨fj_mw_10088, List.forall_mem_cons.mpr ⟨fj_mw_10017, List.forall_mem_cons.mpr ⟨fj_mw_6074, List.forall_mem_cons.mpr ⟨fj_mw_10022, List.forall_mem_cons.mpr ⟨fj_mw_10026, List.forall_mem_cons.mpr ⟨fj_mw_10030, List.forall_mem_cons.mpr ⟨fj_mw_6085, List.forall_mem_cons.mpr ⟨fj_mw_6078, List.forall_mem_cons.mpr ⟨fj_mw_6089, List.forall_mem_cons.mpr ⟨fj_mw_6093, List.forall_mem_cons.mpr ⟨fj_mw_10034, List.forall_mem_cons.mpr ⟨fj_mw_10038, List.forall_mem_cons.mpr ⟨fj_mw_6096, List.forall_mem_cons.mpr ⟨fj_mw_10042, List.forall_mem_cons.mpr ⟨fj_mw_6099, List.forall_mem_cons.mpr ⟨fj_mw_10046, List.forall_mem_cons.mpr ⟨fj_mw_6103, List.forall_mem_cons.mpr ⟨fj_mw_10051, List.forall_mem_cons.mpr ⟨fj_mw_6126, List.forall_mem_cons.mpr ⟨fj_mw_6129, List.forall_mem_cons.mpr ⟨fj_mw_6138, List.forall_mem_cons.mpr ⟨fj_mw_6141, fun _ h => absurd h List.not_mem_nil⟩⟩⟩⟩⟩⟩⟩⟩⟩⟩⟩⟩⟩⟩⟩⟩⟩⟩⟩⟩⟩⟩⟩⟩⟩
def fj_mws_l4 : List (Nat × Nat) := [(6145, 107), (6166, 106), (6159, 101), (6169, 108), (6149, 109), (6172, 110), (6176, 111), (6180, 112), (6113, 94), (6153, 104), (6156, 103), (6162, 105), (6132, 95), (10055, 98), (6135, 97), (10059, 113), (10063, 115), (6187, 114), (10067, 116), (10071, 117), (10075, 118), (10079, 119), (10083, 120), (10087, 121), (10091, 122)]
theorem fj_mws_4 : ∀ q ∈ fj_mws_l4, fj_mW q := List.forall_mem_cons.mpr ⟨fj_mw_6145, List.forall_mem_cons.mpr ⟨fj_mw_6166, List.forall_mem_cons.mpr ⟨fj_mw_6159, List.forall_mem_cons.mpr ⟨fj_mw_6169, List.forall_mem_cons.mpr ⟨fj_mw_6149, List.forall_mem_cons.mpr ⟨fj_mw_6172, List.forall_mem_cons.mpr ⟨fj_mw_6176, List.forall_mem_cons.mpr ⟨fj_mw_6180, List.forall_mem_cons.mpr ⟨fj_mw_6113, List.forall_mem_cons.mpr ⟨fj_mw_6153, List.forall_mem_cons.mpr ⟨fj_mw_6156, List.forall_mem_cons.mpr ⟨fj_mw_6162, List.forall_mem_cons.mpr ⟨fj_mw_6132, List.forall_mem_cons.mpr ⟨fj_mw_10055, List.forall_mem_cons.mpr ⟨fj_mw_6135, List.forall_mem_cons.mpr ⟨fj_mw_10059, List.forall_mem_cons.mpr ⟨fj_mw_10063, List.forall_mem_cons.mpr ⟨fj_mw_6187, List.forall_mem_cons.mpr ⟨fj_mw_10067, List.forall_mem_cons.mpr ⟨fj_mw_10071, List.forall_mem_cons.mpr ⟨fj_mw_10075, List.forall_mem_cons.mpr ⟨fj_mw_10079, List.forall_mem_cons.mpr ⟨fj_mw_10083, List.forall_mem_cons.mpr ⟨fj_mw_10087, List.forall_mem_cons.mpr ⟨fj_mw_10091, fun _ h => absurd h List.not_mem_nil⟩⟩⟩⟩⟩⟩⟩⟩⟩⟩⟩⟩⟩⟩⟩⟩⟩⟩⟩⟩⟩⟩⟩⟩⟩
theorem fj_mws_eq : fj_ml = fj_mws_l0 ++ (fj_mws_l1 ++ (fj_mws_l2 ++ (fj_mws_l3 ++ (fj_mws_l4)))) := rfl
theorem fj_mws : ∀ q ∈ fj_ml, fj_mW q := by
  rw [fj_mws_eq]
  exact List.forall_mem_append.mpr ⟨fj_mws_0, List.forall_mem_append.mpr ⟨fj_mws_1, List.forall_mem_append.mpr ⟨fj_mws_2, List.forall_mem_append.mpr ⟨fj_mws_3, fj_mws_4⟩⟩⟩⟩
set_option maxRecDepth 40000 in
theorem fj_cw_0 : Cond.code (fj_y 0) (fj_b 0) (fj_nL 0) (fj_ret 0) ∈ fj_tb := fj_in 264 rfl rfl
set_option maxRecDepth 40000 in
theorem fj_cw_1 : Cond.code (fj_y 1) (fj_b 1) (fj_nL 1) (fj_ret 1) ∈ fj_tb := fj_in 272 rfl rfl
set_option maxRecDepth 40000 in
theorem fj_cw_2 : Cond.code (fj_y 2) (fj_b 2) (fj_nL 2) (fj_ret 2) ∈ fj_tb := fj_in 324 rfl rfl
set_option maxRecDepth 40000 in
theorem fj_cw_3 : Cond.code (fj_y 3) (fj_b 3) (fj_nL 3) (fj_ret 3) ∈ fj_tb := fj_in 413 rfl rfl
set_option maxRecDepth 40000 in
theorem fj_cw_4 : Cond.code (fj_y 4) (fj_b 4) (fj_nL 4) (fj_ret 4) ∈ fj_tb := fj_in 330 rfl rfl
set_option maxRecDepth 40000 in
theorem fj_cw_5 : Cond.code (fj_y 5) (fj_b 5) (fj_nL 5) (fj_ret 5) ∈ fj_tb := fj_in 360 rfl rfl
set_option maxRecDepth 40000 in
theorem fj_cw_6 : Cond.code (fj_y 6) (fj_b 6) (fj_nL 6) (fj_ret 6) ∈ fj_tb := fj_in 214 rfl rfl
set_option maxRecDepth 40000 in
theorem fj_cw_7 : Cond.code (fj_y 7) (fj_b 7) (fj_nL 7) (fj_ret 7) ∈ fj_tb := fj_in 221 rfl rfl
set_option maxRecDepth 40000 in
theorem fj_cw_8 : Cond.code (fj_y 8) (fj_b 8) (fj_nL 8) (fj_ret 8) ∈ fj_tb := fj_in 225 rfl rfl
set_option maxRecDepth 40000 in
theorem fj_cw_9 : Cond.code (fj_y 9) (fj_b 9) (fj_nL 9) (fj_ret 9) ∈ fj_tb := fj_in 317 rfl rfl
set_option maxRecDepth 40000 in
theorem fj_cw_10 : Cond.code (fj_y 10) (fj_b 10) (fj_nL 10) (fj_ret 10) ∈ fj_tb := fj_in 374 rfl rfl
set_option maxRecDepth 40000 in
theorem fj_cw_11 : Cond.code (fj_y 11) (fj_b 11) (fj_nL 11) (fj_ret 11) ∈ fj_tb := fj_in 385 rfl rfl
set_option maxRecDepth 40000 in
theorem fj_cw_12 : Cond.code (fj_y 12) (fj_b 12) (fj_nL 12) (fj_ret 12) ∈ fj_tb := fj_in 389 rfl rfl
set_option maxRecDepth 40000 in
theorem fj_cw_13 : Cond.code (fj_y 13) (fj_b 13) (fj_nL 13) (fj_ret 13) ∈ fj_tb := fj_in 336 rfl rfl
set_option maxRecDepth 40000 in
theorem fj_cw_14 : Cond.code (fj_y 14) (fj_b 14) (fj_nL 14) (fj_ret 14) ∈ fj_tb := fj_in 402 rfl rfl
set_option maxRecDepth 40000 in
theorem fj_cw_15 : Cond.code (fj_y 15) (fj_b 15) (fj_nL 15) (fj_ret 15) ∈ fj_tb := fj_in 406 rfl rfl
set_option maxRecDepth 40000 in
theorem fj_cw_16 : Cond.code (fj_y 16) (fj_b 16) (fj_nL 16) (fj_ret 16) ∈ fj_tb := fj_in 187 rfl rfl
set_option maxRecDepth 40000 in
theorem fj_cw_17 : Cond.code (fj_y 17) (fj_b 17) (fj_nL 17) (fj_ret 17) ∈ fj_tb := fj_in 194 rfl rfl
set_option maxRecDepth 40000 in
theorem fj_cw_18 : Cond.code (fj_y 18) (fj_b 18) (fj_nL 18) (fj_ret 18) ∈ fj_tb := fj_in 198 rfl rfl
set_option maxRecDepth 40000 in
theorem fj_cw_19 : Cond.code (fj_y 19) (fj_b 19) (fj_nL 19) (fj_ret 19) ∈ fj_tb := fj_in 202 rfl rfl
set_option maxRecDepth 40000 in
theorem fj_cw_20 : Cond.code (fj_y 20) (fj_b 20) (fj_nL 20) (fj_ret 20) ∈ fj_tb := fj_in 229 rfl rfl
set_option maxRecDepth 40000 in
theorem fj_cw_21 : Cond.code (fj_y 21) (fj_b 21) (fj_nL 21) (fj_ret 21) ∈ fj_tb := fj_in 233 rfl rfl
set_option maxRecDepth 40000 in
theorem fj_cw_22 : Cond.code (fj_y 22) (fj_b 22) (fj_nL 22) (fj_ret 22) ∈ fj_tb := fj_in 260 rfl rfl
set_option maxRecDepth 40000 in
theorem fj_cw_23 : Cond.code (fj_y 23) (fj_b 23) (fj_nL 23) (fj_ret 23) ∈ fj_tb := fj_in 268 rfl rfl
set_option maxRecDepth 40000 in
theorem fj_cw_24 : Cond.code (fj_y 24) (fj_b 24) (fj_nL 24) (fj_ret 24) ∈ fj_tb := fj_in 276 rfl rfl
set_option maxRecDepth 40000 in
theorem fj_cw_25 : Cond.code (fj_y 25) (fj_b 25) (fj_nL 25) (fj_ret 25) ∈ fj_tb := fj_in 453 rfl rfl
set_option maxRecDepth 40000 in
theorem fj_cw_26 : Cond.code (fj_y 26) (fj_b 26) (fj_nL 26) (fj_ret 26) ∈ fj_tb := fj_in 457 rfl rfl
set_option maxRecDepth 40000 in
theorem fj_cw_27 : Cond.code (fj_y 27) (fj_b 27) (fj_nL 27) (fj_ret 27) ∈ fj_tb := fj_in 461 rfl rfl
set_option maxRecDepth 40000 in
theorem fj_cw_28 : Cond.code (fj_y 28) (fj_b 28) (fj_nL 28) (fj_ret 28) ∈ fj_tb := fj_in 465 rfl rfl
set_option maxRecDepth 40000 in
theorem fj_cw_29 : Cond.code (fj_y 29) (fj_b 29) (fj_nL 29) (fj_ret 29) ∈ fj_tb := fj_in 470 rfl rfl
set_option maxRecDepth 40000 in
theorem fj_cw_30 : Cond.code (fj_y 30) (fj_b 30) (fj_nL 30) (fj_ret 30) ∈ fj_tb := fj_in 474 rfl rfl
set_option maxRecDepth 40000 in
theorem fj_cw_31 : Cond.code (fj_y 31) (fj_b 31) (fj_nL 31) (fj_ret 31) ∈ fj_tb := fj_in 478 rfl rfl
set_option maxRecDepth 40000 in
theorem fj_cw_32 : Cond.code (fj_y 32) (fj_b 32) (fj_nL 32) (fj_ret 32) ∈ fj_tb := fj_in 482 rfl rfl
set_option maxRecDepth 40000 in
theorem fj_cw_33 : Cond.code (fj_y 33) (fj_b 33) (fj_nL 33) (fj_ret 33) ∈ fj_tb := fj_in 486 rfl rfl
set_option maxRecDepth 40000 in
theorem fj_cw_34 : Cond.code (fj_y 34) (fj_b 34) (fj_nL 34) (fj_ret 34) ∈ fj_tb := fj_in 490 rfl rfl
set_option maxRecDepth 40000 in
theorem fj_cw_35 : Cond.code (fj_y 35) (fj_b 35) (fj_nL 35) (fj_ret 35) ∈ fj_tb := fj_in 190 rfl rfl
set_option maxRecDepth 40000 in
theorem fj_cw_36 : Cond.code (fj_y 36) (fj_b 36) (fj_nL 36) (fj_ret 36) ∈ fj_tb := fj_in 342 rfl rfl
set_option maxRecDepth 40000 in
theorem fj_cw_37 : Cond.code (fj_y 37) (fj_b 37) (fj_nL 37) (fj_ret 37) ∈ fj_tb := fj_in 217 rfl rfl
set_option maxRecDepth 40000 in
theorem fj_cw_38 : Cond.code (fj_y 38) (fj_b 38) (fj_nL 38) (fj_ret 38) ∈ fj_tb := fj_in 236 rfl rfl
set_option maxRecDepth 40000 in
theorem fj_cw_39 : Cond.code (fj_y 39) (fj_b 39) (fj_nL 39) (fj_ret 39) ∈ fj_tb := fj_in 256 rfl rfl
set_option maxRecDepth 40000 in
theorem fj_cw_40 : Cond.code (fj_y 40) (fj_b 40) (fj_nL 40) (fj_ret 40) ∈ fj_tb := fj_in 248 rfl rfl
set_option maxRecDepth 40000 in
theorem fj_cw_41 : Cond.code (fj_y 41) (fj_b 41) (fj_nL 41) (fj_ret 41) ∈ fj_tb := fj_in 252 rfl rfl
set_option maxRecDepth 40000 in
theorem fj_cw_42 : Cond.code (fj_y 42) (fj_b 42) (fj_nL 42) (fj_ret 42) ∈ fj_tb := fj_in 296 rfl rfl
set_option maxRecDepth 40000 in
theorem fj_cw_43 : Cond.code (fj_y 43) (fj_b 43) (fj_nL 43) (fj_ret 43) ∈ fj_tb := fj_in 300 rfl rfl
set_option maxRecDepth 40000 in
theorem fj_cw_44 : Cond.code (fj_y 44) (fj_b 44) (fj_nL 44) (fj_ret 44) ∈ fj_tb := fj_in 206 rfl rfl
set_option maxRecDepth 40000 in
theorem fj_cw_45 : Cond.code (fj_y 45) (fj_b 45) (fj_nL 45) (fj_ret 45) ∈ fj_tb := fj_in 210 rfl rfl
set_option maxRecDepth 40000 in
theorem fj_cw_46 : Cond.code (fj_y 46) (fj_b 46) (fj_nL 46) (fj_ret 46) ∈ fj_tb := fj_in 284 rfl rfl
set_option maxRecDepth 40000 in
theorem fj_cw_47 : Cond.code (fj_y 47) (fj_b 47) (fj_nL 47) (fj_ret 47) ∈ fj_tb := fj_in 240 rfl rfl
set_option maxRecDepth 40000 in
theorem fj_cw_48 : Cond.code (fj_y 48) (fj_b 48) (fj_nL 48) (fj_ret 48) ∈ fj_tb := fj_in 244 rfl rfl
set_option maxRecDepth 40000 in
theorem fj_cw_49 : Cond.code (fj_y 49) (fj_b 49) (fj_nL 49) (fj_ret 49) ∈ fj_tb := fj_in 280 rfl rfl
set_option maxRecDepth 40000 in
theorem fj_cw_50 : Cond.code (fj_y 50) (fj_b 50) (fj_nL 50) (fj_ret 50) ∈ fj_tb := fj_in 288 rfl rfl
set_option maxRecDepth 40000 in
theorem fj_cw_51 : Cond.code (fj_y 51) (fj_b 51) (fj_nL 51) (fj_ret 51) ∈ fj_tb := fj_in 292 rfl rfl
set_option maxRecDepth 40000 in
theorem fj_cw_52 : Cond.code (fj_y 52) (fj_b 52) (fj_nL 52) (fj_ret 52) ∈ fj_tb := fj_in 304 rfl rfl
set_option maxRecDepth 40000 in
theorem fj_cw_53 : Cond.code (fj_y 53) (fj_b 53) (fj_nL 53) (fj_ret 53) ∈ fj_tb := fj_in 370 rfl rfl
set_option maxRecDepth 40000 in
theorem fj_cw_54 : Cond.code (fj_y 54) (fj_b 54) (fj_nL 54) (fj_ret 54) ∈ fj_tb := fj_in 321 rfl rfl
set_option maxRecDepth 40000 in
theorem fj_cw_55 : Cond.code (fj_y 55) (fj_b 55) (fj_nL 55) (fj_ret 55) ∈ fj_tb := fj_in 327 rfl rfl
set_option maxRecDepth 40000 in
theorem fj_cw_56 : Cond.code (fj_y 56) (fj_b 56) (fj_nL 56) (fj_ret 56) ∈ fj_tb := fj_in 339 rfl rfl
set_option maxRecDepth 40000 in
theorem fj_cw_57 : Cond.code (fj_y 57) (fj_b 57) (fj_nL 57) (fj_ret 57) ∈ fj_tb := fj_in 345 rfl rfl
set_option maxRecDepth 40000 in
theorem fj_cw_58 : Cond.code (fj_y 58) (fj_b 58) (fj_nL 58) (fj_ret 58) ∈ fj_tb := fj_in 349 rfl rfl
set_option maxRecDepth 40000 in
theorem fj_cw_59 : Cond.code (fj_y 59) (fj_b 59) (fj_nL 59) (fj_ret 59) ∈ fj_tb := fj_in 366 rfl rfl
set_option maxRecDepth 40000 in
theorem fj_cw_60 : Cond.code (fj_y 60) (fj_b 60) (fj_nL 60) (fj_ret 60) ∈ fj_tb := fj_in 353 rfl rfl
set_option maxRecDepth 40000 in
theorem fj_cw_61 : Cond.code (fj_y 61) (fj_b 61) (fj_nL 61) (fj_ret 61) ∈ fj_tb := fj_in 357 rfl rfl
set_option maxRecDepth 40000 in
theorem fj_cw_62 : Cond.code (fj_y 62) (fj_b 62) (fj_nL 62) (fj_ret 62) ∈ fj_tb := fj_in 308 rfl rfl
set_option maxRecDepth 40000 in
theorem fj_cw_63 : Cond.code (fj_y 63) (fj_b 63) (fj_nL 63) (fj_ret 63) ∈ fj_tb := fj_in 312 rfl rfl
set_option maxRecDepth 40000 in
theorem fj_cw_64 : Cond.code (fj_y 64) (fj_b 64) (fj_nL 64) (fj_ret 64) ∈ fj_tb := fj_in 378 rfl rfl
set_option maxRecDepth 40000 in
theorem fj_cw_65 : Cond.code (fj_y 65) (fj_b 65) (fj_nL 65) (fj_ret 65) ∈ fj_tb := fj_in 381 rfl rfl
set_option maxRecDepth 40000 in
theorem fj_cw_66 : Cond.code (fj_y 66) (fj_b 66) (fj_nL 66) (fj_ret 66) ∈ fj_tb := fj_in 392 rfl rfl
set_option maxRecDepth 40000 in
theorem fj_cw_67 : Cond.code (fj_y 67) (fj_b 67) (fj_nL 67) (fj_ret 67) ∈ fj_tb := fj_in 395 rfl rfl
set_option maxRecDepth 40000 in
theorem fj_cw_68 : Cond.code (fj_y 68) (fj_b 68) (fj_nL 68) (fj_ret 68) ∈ fj_tb := fj_in 398 rfl rfl
set_option maxRecDepth 40000 in
theorem fj_cw_69 : Cond.code (fj_y 69) (fj_b 69) (fj_nL 69) (fj_ret 69) ∈ fj_tb := fj_in 410 rfl rfl
set_option maxRecDepth 40000 in
theorem fj_cw_70 : Cond.code (fj_y 70) (fj_b 70) (fj_nL 70) (fj_ret 70) ∈ fj_tb := fj_in 417 rfl rfl
set_option maxRecDepth 40000 in
theorem fj_cw_71 : Cond.code (fj_y 71) (fj_b 71) (fj_nL 71) (fj_ret 71) ∈ fj_tb := fj_in 425 rfl rfl
set_option maxRecDepth 40000 in
theorem fj_cw_72 : Cond.code (fj_y 72) (fj_b 72) (fj_nL 72) (fj_ret 72) ∈ fj_tb := fj_in 429 rfl rfl
set_option maxRecDepth 40000 in
theorem fj_cw_73 : Cond.code (fj_y 73) (fj_b 73) (fj_nL 73) (fj_ret 73) ∈ fj_tb := fj_in 421 rfl rfl
set_option maxRecDepth 40000 in
theorem fj_cw_74 : Cond.code (fj_y 74) (fj_b 74) (fj_nL 74) (fj_ret 74) ∈ fj_tb := fj_in 433 rfl rfl
set_option maxRecDepth 40000 in
theorem fj_cw_75 : Cond.code (fj_y 75) (fj_b 75) (fj_nL 75) (fj_ret 75) ∈ fj_tb := fj_in 449 rfl rfl
set_option maxRecDepth 40000 in
theorem fj_cw_76 : Cond.code (fj_y 76) (fj_b 76) (fj_nL 76) (fj_ret 76) ∈ fj_tb := fj_in 437 rfl rfl
set_option maxRecDepth 40000 in
theorem fj_cw_77 : Cond.code (fj_y 77) (fj_b 77) (fj_nL 77) (fj_ret 77) ∈ fj_tb := fj_in 445 rfl rfl
set_option maxRecDepth 40000 in
theorem fj_cw_78 : Cond.code (fj_y 78) (fj_b 78) (fj_nL 78) (fj_ret 78) ∈ fj_tb := fj_in 588 rfl rfl
set_option maxRecDepth 40000 in
theorem fj_cw_79 : Cond.code (fj_y 79) (fj_b 79) (fj_nL 79) (fj_ret 79) ∈ fj_tb := fj_in 585 rfl rfl
set_option maxRecDepth 40000 in
theorem fj_cw_80 : Cond.code (fj_y 80) (fj_b 80) (fj_nL 80) (fj_ret 80) ∈ fj_tb := fj_in 592 rfl rfl
set_option maxRecDepth 40000 in
theorem fj_cw_81 : Cond.code (fj_y 81) (fj_b 81) (fj_nL 81) (fj_ret 81) ∈ fj_tb := fj_in 596 rfl rfl
set_option maxRecDepth 40000 in
theorem fj_cw_82 : Cond.code (fj_y 82) (fj_b 82) (fj_nL 82) (fj_ret 82) ∈ fj_tb := fj_in 608 rfl rfl
set_option maxRecDepth 40000 in
theorem fj_cw_83 : Cond.code (fj_y 83) (fj_b 83) (fj_nL 83) (fj_ret 83) ∈ fj_tb := fj_in 604 rfl rfl
set_option maxRecDepth 40000 in
theorem fj_cw_84 : Cond.code (fj_y 84) (fj_b 84) (fj_nL 84) (fj_ret 84) ∈ fj_tb := fj_in 612 rfl rfl
set_option maxRecDepth 40000 in
theorem fj_cw_85 : Cond.code (fj_y 85) (fj_b 85) (fj_nL 85) (fj_ret 85) ∈ fj_tb := fj_in 600 rfl rfl
set_option maxRecDepth 40000 in
theorem fj_cw_86 : Cond.code (fj_y 86) (fj_b 86) (fj_nL 86) (fj_ret 86) ∈ fj_tb := fj_in 620 rfl rfl
set_option maxRecDepth 40000 in
theorem fj_cw_87 : Cond.code (fj_y 87) (fj_b 87) (fj_nL 87) (fj_ret 87) ∈ fj_tb := fj_in 627 rfl rfl
set_option maxRecDepth 40000 in
theorem fj_cw_88 : Cond.code (fj_y 88) (fj_b 88) (fj_nL 88) (fj_ret 88) ∈ fj_tb := fj_in 624 rfl rfl
set_option maxRecDepth 40000 in
theorem fj_cw_89 : Cond.code (fj_y 89) (fj_b 89) (fj_nL 89) (fj_ret 89) ∈ fj_tb := fj_in 635 rfl rfl
set_option maxRecDepth 40000 in
theorem fj_cw_90 : Cond.code (fj_y 90) (fj_b 90) (fj_nL 90) (fj_ret 90) ∈ fj_tb := fj_in 643 rfl rfl
set_option maxRecDepth 40000 in
theorem fj_cw_91 : Cond.code (fj_y 91) (fj_b 91) (fj_nL 91) (fj_ret 91) ∈ fj_tb := fj_in 631 rfl rfl
set_option maxRecDepth 40000 in
theorem fj_cw_92 : Cond.code (fj_y 92) (fj_b 92) (fj_nL 92) (fj_ret 92) ∈ fj_tb := fj_in 639 rfl rfl
set_option maxRecDepth 40000 in
theorem fj_cw_93 : Cond.code (fj_y 93) (fj_b 93) (fj_nL 93) (fj_ret 93) ∈ fj_tb := fj_in 616 rfl rfl
set_option maxRecDepth 40000 in
theorem fj_cw_94 : Cond.code (fj_y 94) (fj_b 94) (fj_nL 94) (fj_ret 94) ∈ fj_tb := fj_in 698 rfl rfl
set_option maxRecDepth 40000 in
theorem fj_cw_95 : Cond.code (fj_y 95) (fj_b 95) (fj_nL 95) (fj_ret 95) ∈ fj_tb := fj_in 712 rfl rfl
set_option maxRecDepth 40000 in
theorem fj_cw_96 : Cond.code (fj_y 96) (fj_b 96) (fj_nL 96) (fj_ret 96) ∈ fj_tb := fj_in 651 rfl rfl
set_option maxRecDepth 40000 in
theorem fj_cw_97 : Cond.code (fj_y 97) (fj_b 97) (fj_nL 97) (fj_ret 97) ∈ fj_tb := fj_in 647 rfl rfl
set_option maxRecDepth 40000 in
theorem fj_cw_98 : Cond.code (fj_y 98) (fj_b 98) (fj_nL 98) (fj_ret 98) ∈ fj_tb := fj_in 716 rfl rfl
set_option maxRecDepth 40000 in
theorem fj_cw_99 : Cond.code (fj_y 99) (fj_b 99) (fj_nL 99) (fj_ret 99) ∈ fj_tb := fj_in 658 rfl rfl
set_option maxRecDepth 40000 in
theorem fj_cw_100 : Cond.code (fj_y 100) (fj_b 100) (fj_nL 100) (fj_ret 100) ∈ fj_tb := fj_in 662 rfl rfl
set_option maxRecDepth 40000 in
theorem fj_cw_101 : Cond.code (fj_y 101) (fj_b 101) (fj_nL 101) (fj_ret 101) ∈ fj_tb := fj_in 674 rfl rfl
set_option maxRecDepth 40000 in
theorem fj_cw_102 : Cond.code (fj_y 102) (fj_b 102) (fj_nL 102) (fj_ret 102) ∈ fj_tb := fj_in 655 rfl rfl
set_option maxRecDepth 40000 in
theorem fj_cw_103 : Cond.code (fj_y 103) (fj_b 103) (fj_nL 103) (fj_ret 103) ∈ fj_tb := fj_in 705 rfl rfl
set_option maxRecDepth 40000 in
theorem fj_cw_104 : Cond.code (fj_y 104) (fj_b 104) (fj_nL 104) (fj_ret 104) ∈ fj_tb := fj_in 702 rfl rfl
set_option maxRecDepth 40000 in
theorem fj_cw_105 : Cond.code (fj_y 105) (fj_b 105) (fj_nL 105) (fj_ret 105) ∈ fj_tb := fj_in 708 rfl rfl
set_option maxRecDepth 40000 in
theorem fj_cw_106 : Cond.code (fj_y 106) (fj_b 106) (fj_nL 106) (fj_ret 106) ∈ fj_tb := fj_in 670 rfl rfl
set_option maxRecDepth 40000 in
theorem fj_cw_107 : Cond.code (fj_y 107) (fj_b 107) (fj_nL 107) (fj_ret 107) ∈ fj_tb := fj_in 666 rfl rfl
set_option maxRecDepth 40000 in
theorem fj_cw_108 : Cond.code (fj_y 108) (fj_b 108) (fj_nL 108) (fj_ret 108) ∈ fj_tb := fj_in 677 rfl rfl
set_option maxRecDepth 40000 in
theorem fj_cw_109 : Cond.code (fj_y 109) (fj_b 109) (fj_nL 109) (fj_ret 109) ∈ fj_tb := fj_in 681 rfl rfl
set_option maxRecDepth 40000 in
theorem fj_cw_110 : Cond.code (fj_y 110) (fj_b 110) (fj_nL 110) (fj_ret 110) ∈ fj_tb := fj_in 685 rfl rfl
set_option maxRecDepth 40000 in
theorem fj_cw_111 : Cond.code (fj_y 111) (fj_b 111) (fj_nL 111) (fj_ret 111) ∈ fj_tb := fj_in 689 rfl rfl
set_option maxRecDepth 40000 in
theorem fj_cw_112 : Cond.code (fj_y 112) (fj_b 112) (fj_nL 112) (fj_ret 112) ∈ fj_tb := fj_in 693 rfl rfl
set_option maxRecDepth 40000 in
theorem fj_cw_113 : Cond.code (fj_y 113) (fj_b 113) (fj_nL 113) (fj_ret 113) ∈ fj_tb := fj_in 721 rfl rfl
set_option maxRecDepth 40000 in
theorem fj_cw_114 : Cond.code (fj_y 114) (fj_b 114) (fj_nL 114) (fj_ret 114) ∈ fj_tb := fj_in 728 rfl rfl
set_option maxRecDepth 40000 in
theorem fj_cw_115 : Cond.code (fj_y 115) (fj_b 115) (fj_nL 115) (fj_ret 115) ∈ fj_tb := fj_in 725 rfl rfl
set_option maxRecDepth 40000 in
theorem fj_cw_116 : Cond.code (fj_y 116) (fj_b 116) (fj_nL 116) (fj_ret 116) ∈ fj_tb := fj_in 732 rfl rfl
set_option maxRecDepth 40000 in
theorem fj_cw_117 : Cond.code (fj_y 117) (fj_b 117) (fj_nL 117) (fj_ret 117) ∈ fj_tb := fj_in 737 rfl rfl
set_option maxRecDepth 40000 in
theorem fj_cw_118 : Cond.code (fj_y 118) (fj_b 118) (fj_nL 118) (fj_ret 118) ∈ fj_tb := fj_in 741 rfl rfl
set_option maxRecDepth 40000 in
theorem fj_cw_119 : Cond.code (fj_y 119) (fj_b 119) (fj_nL 119) (fj_ret 119) ∈ fj_tb := fj_in 745 rfl rfl
set_option maxRecDepth 40000 in
theorem fj_cw_120 : Cond.code (fj_y 120) (fj_b 120) (fj_nL 120) (fj_ret 120) ∈ fj_tb := fj_in 749 rfl rfl
set_option maxRecDepth 40000 in
theorem fj_cw_121 : Cond.code (fj_y 121) (fj_b 121) (fj_nL 121) (fj_ret 121) ∈ fj_tb := fj_in 753 rfl rfl
set_option maxRecDepth 40000 in
theorem fj_cw_122 : Cond.code (fj_y 122) (fj_b 122) (fj_nL 122) (fj_ret 122) ∈ fj_tb := fj_in 757 rfl rfl
theorem fj_cw : ∀ k, k < 123 → Cond.code (fj_y k) (fj_b k) (fj_nL k) (fj_ret k) ∈ fj_tb
  | 0, _ => fj_cw_0
  | 1, _ => fj_cw_1
  | 2, _ => fj_cw_2
  | 3, _ => fj_cw_3
  | 4, _ => fj_cw_4
  | 5, _ => fj_cw_5
  | 6, _ => fj_cw_6
  | 7, _ => fj_cw_7
  | 8, _ => fj_cw_8
  | 9, _ => fj_cw_9
  | 10, _ => fj_cw_10
  | 11, _ => fj_cw_11
  | 12, _ => fj_cw_12
  | 13, _ => fj_cw_13
  | 14, _ => fj_cw_14
  | 15, _ => fj_cw_15
  | 16, _ => fj_cw_16
  | 17, _ => fj_cw_17
  | 18, _ => fj_cw_18
  | 19, _ => fj_cw_19
  | 20, _ => fj_cw_20
  | 21, _ => fj_cw_21
  | 22, _ => fj_cw_22
  | 23, _ => fj_cw_23
  | 24, _ => fj_cw_24
  | 25, _ => fj_cw_25
  | 26, _ => fj_cw_26
  | 27, _ => fj_cw_27
  | 28, _ => fj_cw_28
  | 29, _ => fj_cw_29
  | 30, _ => fj_cw_30
  | 31, _ => fj_cw_31
  | 32, _ => fj_cw_32
  | 33, _ => fj_cw_33
  | 34, _ => fj_cw_34
  | 35, _ => fj_cw_35
  | 36, _ => fj_cw_36
  | 37, _ => fj_cw_37
  | 38, _ => fj_cw_38
  | 39, _ => fj_cw_39
  | 40, _ => fj_cw_40
  | 41, _ => fj_cw_41
  | 42, _ => fj_cw_42
  | 43, _ => fj_cw_43
  | 44, _ => fj_cw_44
  | 45, _ => fj_cw_45
  | 46, _ => fj_cw_46
  | 47, _ => fj_cw_47
  | 48, _ => fj_cw_48
  | 49, _ => fj_cw_49
  | 50, _ => fj_cw_50
  | 51, _ => fj_cw_51
  | 52, _ => fj_cw_52
  | 53, _ => fj_cw_53
  | 54, _ => fj_cw_54
  | 55, _ => fj_cw_55
  | 56, _ => fj_cw_56
  | 57, _ => fj_cw_57
  | 58, _ => fj_cw_58
  | 59, _ => fj_cw_59
  | 60, _ => fj_cw_60
  | 61, _ => fj_cw_61
  | 62, _ => fj_cw_62
  | 63, _ => fj_cw_63
  | 64, _ => fj_cw_64
  | 65, _ => fj_cw_65
  | 66, _ => fj_cw_66
  | 67, _ => fj_cw_67
  | 68, _ => fj_cw_68
  | 69, _ => fj_cw_69
  | 70, _ => fj_cw_70
  | 71, _ => fj_cw_71
  | 72, _ => fj_cw_72
  | 73, _ => fj_cw_73
  | 74, _ => fj_cw_74
  | 75, _ => fj_cw_75
  | 76, _ => fj_cw_76
  | 77, _ => fj_cw_77
  | 78, _ => fj_cw_78
  | 79, _ => fj_cw_79
  | 80, _ => fj_cw_80
  | 81, _ => fj_cw_81
  | 82, _ => fj_cw_82
  | 83, _ => fj_cw_83
  | 84, _ => fj_cw_84
  | 85, _ => fj_cw_85
  | 86, _ => fj_cw_86
  | 87, _ => fj_cw_87
  | 88, _ => fj_cw_88
  | 89, _ => fj_cw_89
  | 90, _ => fj_cw_90
  | 91, _ => fj_cw_91
  | 92, _ => fj_cw_92
  | 93, _ => fj_cw_93
  | 94, _ => fj_cw_94
  | 95, _ => fj_cw_95
  | 96, _ => fj_cw_96
  | 97, _ => fj_cw_97
  | 98, _ => fj_cw_98
  | 99, _ => fj_cw_99
  | 100, _ => fj_cw_100
  | 101, _ => fj_cw_101
  | 102, _ => fj_cw_102
  | 103, _ => fj_cw_103
  | 104, _ => fj_cw_104
  | 105, _ => fj_cw_105
  | 106, _ => fj_cw_106
  | 107, _ => fj_cw_107
  | 108, _ => fj_cw_108
  | 109, _ => fj_cw_109
  | 110, _ => fj_cw_110
  | 111, _ => fj_cw_111
  | 112, _ => fj_cw_112
  | 113, _ => fj_cw_113
  | 114, _ => fj_cw_114
  | 115, _ => fj_cw_115
  | 116, _ => fj_cw_116
  | 117, _ => fj_cw_117
  | 118, _ => fj_cw_118
  | 119, _ => fj_cw_119
  | 120, _ => fj_cw_120
  | 121, _ => fj_cw_121
  | 122, _ => fj_cw_122
  | k + 123, h => absurd h (by omega)
set_option maxRecDepth 40000 in
theorem fj_con_ok : ∀ q ∈ fj_con, Cond.constant (fj_Rn (q.1 / 1000)) (q.1 % 1000) q.2 ∈ fj_tb := List.forall_mem_cons.mpr ⟨fj_in 438 rfl rfl, List.forall_mem_cons.mpr ⟨fj_in 466 rfl rfl, List.forall_mem_cons.mpr ⟨fj_in 694 rfl rfl, List.forall_mem_cons.mpr ⟨fj_in 733 rfl rfl, fun _ h => absurd h List.not_mem_nil⟩⟩⟩⟩
set_option maxRecDepth 40000 in
theorem fj_sl_ok : ∀ q ∈ fj_sl, (q.2 = 40 ∧ Cond.fieldLink (fj_Rn (q.1 / 1000)) (q.1 % 1000) RX2 "TAKES" "[I" ∈ fj_tb) ∨ (q.2 = 41 ∧ Cond.fieldLink (fj_Rn (q.1 / 1000)) (q.1 % 1000) RX2 "GIVES" "[I" ∈ fj_tb) := List.forall_mem_cons.mpr ⟨Or.inl ⟨rfl, fj_in 331 rfl rfl⟩, List.forall_mem_cons.mpr ⟨Or.inr ⟨rfl, fj_in 361 rfl rfl⟩, fun _ h => absurd h List.not_mem_nil⟩⟩
set_option maxRecDepth 40000 in
theorem fj_lay0k : ∀ k, k < 3 → u_lay RX0 TX0 k ∈ fj_tb
  | 0, _ => fj_in 134 rfl rfl
  | 1, _ => fj_in 136 rfl rfl
  | 2, _ => fj_in 138 rfl rfl
  | k + 3, h => absurd h (by omega)
theorem fj_lay0 : ∀ w ∈ u_ws RX0 TX0 3, w ∈ fj_tb := fun w h => by
  obtain ⟨k, h1, h2⟩ := List.mem_map.mp h
  rw [← h2]
  exact fj_lay0k k (List.mem_range.mp h1)
set_option maxRecDepth 40000 in
theorem fj_lay4k : ∀ k, k < 12 → u_lay RX4 TX4 k ∈ fj_tb
  | 0, _ => fj_in 97 rfl rfl
  | 1, _ => fj_in 99 rfl rfl
  | 2, _ => fj_in 101 rfl rfl
  | 3, _ => fj_in 103 rfl rfl
  | 4, _ => fj_in 105 rfl rfl
  | 5, _ => fj_in 107 rfl rfl
  | 6, _ => fj_in 109 rfl rfl
  | 7, _ => fj_in 111 rfl rfl
  | 8, _ => fj_in 113 rfl rfl
  | 9, _ => fj_in 115 rfl rfl
  | 10, _ => fj_in 117 rfl rfl
  | 11, _ => fj_in 119 rfl rfl
  | k + 12, h => absurd h (by omega)
theorem fj_lay4 : ∀ w ∈ u_ws RX4 TX4 12, w ∈ fj_tb := fun w h => by
  obtain ⟨k, h1, h2⟩ := List.mem_map.mp h
  rw [← h2]
  exact fj_lay4k k (List.mem_range.mp h1)
set_option maxRecDepth 40000 in
theorem fj_lay5k : ∀ k, k < 14 → u_lay RX5 TX5 k ∈ fj_tb
  | 0, _ => fj_in 155 rfl rfl
  | 1, _ => fj_in 157 rfl rfl
  | 2, _ => fj_in 159 rfl rfl
  | 3, _ => fj_in 161 rfl rfl
  | 4, _ => fj_in 163 rfl rfl
  | 5, _ => fj_in 165 rfl rfl
  | 6, _ => fj_in 167 rfl rfl
  | 7, _ => fj_in 169 rfl rfl
  | 8, _ => fj_in 171 rfl rfl
  | 9, _ => fj_in 173 rfl rfl
  | 10, _ => fj_in 175 rfl rfl
  | 11, _ => fj_in 177 rfl rfl
  | 12, _ => fj_in 179 rfl rfl
  | 13, _ => fj_in 181 rfl rfl
  | k + 14, h => absurd h (by omega)
theorem fj_lay5 : ∀ w ∈ u_ws RX5 TX5 14, w ∈ fj_tb := fun w h => by
  obtain ⟨k, h1, h2⟩ := List.mem_map.mp h
  rw [← h2]
  exact fj_lay5k k (List.mem_range.mp h1)
set_option maxRecDepth 40000 in
theorem fj_lay6k : ∀ k, k < 28 → u_lay RX6 TX6 k ∈ fj_tb
  | 0, _ => fj_in 525 rfl rfl
  | 1, _ => fj_in 527 rfl rfl
  | 2, _ => fj_in 529 rfl rfl
  | 3, _ => fj_in 531 rfl rfl
  | 4, _ => fj_in 533 rfl rfl
  | 5, _ => fj_in 535 rfl rfl
  | 6, _ => fj_in 537 rfl rfl
  | 7, _ => fj_in 539 rfl rfl
  | 8, _ => fj_in 541 rfl rfl
  | 9, _ => fj_in 543 rfl rfl
  | 10, _ => fj_in 545 rfl rfl
  | 11, _ => fj_in 547 rfl rfl
  | 12, _ => fj_in 549 rfl rfl
  | 13, _ => fj_in 551 rfl rfl
  | 14, _ => fj_in 553 rfl rfl
  | 15, _ => fj_in 555 rfl rfl
  | 16, _ => fj_in 557 rfl rfl
  | 17, _ => fj_in 559 rfl rfl
  | 18, _ => fj_in 561 rfl rfl
  | 19, _ => fj_in 563 rfl rfl
  | 20, _ => fj_in 565 rfl rfl
  | 21, _ => fj_in 567 rfl rfl
  | 22, _ => fj_in 569 rfl rfl
  | 23, _ => fj_in 571 rfl rfl
  | 24, _ => fj_in 573 rfl rfl
  | 25, _ => fj_in 575 rfl rfl
  | 26, _ => fj_in 577 rfl rfl
  | 27, _ => fj_in 579 rfl rfl
  | k + 28, h => absurd h (by omega)
theorem fj_lay6 : ∀ w ∈ u_ws RX6 TX6 28, w ∈ fj_tb := fun w h => by
  obtain ⟨k, h1, h2⟩ := List.mem_map.mp h
  rw [← h2]
  exact fj_lay6k k (List.mem_range.mp h1)
def fj_Tk (κ : Nat) : u_T := match κ with
  | 0 => TX5
  | 7 => TX4
  | 10 => TX0
  | _ => TX6
def fj_flw_l0 : List (Nat × Nat × Nat) := [(4009, 7, 0), (5110, 7, 0), (4015, 7, 1), (4020, 7, 2), (5083, 7, 2), (4037, 7, 3), (5087, 7, 3), (4040, 7, 4), (5090, 7, 4), (4043, 7, 5), (5093, 7, 5), (4024, 7, 6), (5096, 7, 6), (4031, 7, 7), (5099, 7, 7), (5104, 7, 8), (4034, 7, 9), (5107, 7, 9), (4046, 7, 10), (5159, 7, 10), (4049, 7, 11), (5162, 7, 11), (9, 10, 0), (5113, 10, 0), (19, 10, 1)]
set_option maxRecDepth 40000 in
theorem fj_flw_0 : ∀ q ∈ fj_flw_l0, Cond.fieldLink (fj_Rn (q.1 / 1000)) (q.1 % 1000) (fj_Tk q.2.1 q.2.2).1 (fj_Tk q.2.1 q.2.2).2.1 (fj_Tk q.2.1 q.2.2).2.2.1 ∈ fj_tb := List.forall_mem_cons.mpr ⟨fj_in 75 rfl rfl, List.forall_mem_cons.mpr ⟨fj_in 76 rfl rfl, List.forall_mem_cons.mpr ⟨fj_in 77 rfl rfl, List.forall_mem_cons.mpr ⟨fj_in 78 rfl rfl, List.forall_mem_cons.mpr ⟨fj_in 79 rfl rfl, List.forall_mem_cons.mpr ⟨fj_in 80 rfl rfl, List.forall_mem_cons.mpr ⟨fj_in 81 rfl rfl, List.forall_mem_cons.mpr ⟨fj_in 82 rfl rfl, List.forall_mem_cons.mpr ⟨fj_in 83 rfl rfl, List.forall_mem_cons.mpr ⟨fj_in 84 rfl rfl, List.forall_mem_cons.mpr ⟨fj_in 85 rfl rfl, List.forall_mem_cons.mpr ⟨fj_in 86 rfl rfl, List.forall_mem_cons.mpr ⟨fj_in 87 rfl rfl, List.forall_mem_cons.mpr ⟨fj_in 88 rfl rfl, List.forall_mem_cons.mpr ⟨fj_in 89 rfl rfl, List.forall_mem_cons.mpr ⟨fj_in 90 rfl rfl, List.forall_mem_cons.mpr ⟨fj_in 91 rfl rfl, List.forall_mem_cons.mpr ⟨fj_in 92 rfl rfl, List.forall_mem_cons.mpr ⟨fj_in 93 rfl rfl, List.forall_mem_cons.mpr ⟨fj_in 94 rfl rfl, List.forall_mem_cons.mpr ⟨fj_in 95 rfl rfl, List.forall_mem_cons.mpr ⟨fj_in 96 rfl rfl, List.forall_mem_cons.mpr ⟨fj_in 128 rfl rfl, List.forall_mem_cons.mpr ⟨fj_in 129 rfl rfl, List.forall_mem_cons.mpr ⟨fj_in 130 rfl rfl, fun _ h => absurd h List.not_mem_nil⟩⟩⟩⟩⟩⟩⟩⟩⟩⟩⟩⟩⟩⟩⟩⟩⟩⟩⟩⟩⟩⟩⟩⟩⟩
def fj_flw_l1 : List (Nat × Nat × Nat) := [(5054, 10, 1), (15, 10, 2), (5057, 10, 2), (5009, 0, 0), (5013, 0, 1), (5016, 0, 2), (5021, 0, 3), (5027, 0, 4), (5031, 0, 5), (5034, 0, 6), (5038, 0, 7), (5125, 0, 8), (5128, 0, 9), (5122, 0, 10), (5119, 0, 11), (5138, 0, 12), (5141, 0, 13), (6007, 20, 0), (6013, 20, 1), (6016, 20, 2), (6019, 20, 3), (6022, 20, 4), (6025, 20, 5), (6028, 20, 6), (6031, 20, 7)]
set_option maxRecDepth 40000 in
theorem fj_flw_1 : ∀ q ∈ fj_flw_l1, Cond.fieldLink (fj_Rn (q.1 / 1000)) (q.1 % 1000) (fj_Tk q.2.1 q.2.2).1 (fj_Tk q.2.1 q.2.2).2.1 (fj_Tk q.2.1 q.2.2).2.2.1 ∈ fj_tb := List.forall_mem_cons.mpr ⟨fj_in 131 rfl rfl, List.forall_mem_cons.mpr ⟨fj_in 132 rfl rfl, List.forall_mem_cons.mpr ⟨fj_in 133 rfl rfl, List.forall_mem_cons.mpr ⟨fj_in 141 rfl rfl, List.forall_mem_cons.mpr ⟨fj_in 142 rfl rfl, List.forall_mem_cons.mpr ⟨fj_in 143 rfl rfl, List.forall_mem_cons.mpr ⟨fj_in 144 rfl rfl, List.forall_mem_cons.mpr ⟨fj_in 145 rfl rfl, List.forall_mem_cons.mpr ⟨fj_in 146 rfl rfl, List.forall_mem_cons.mpr ⟨fj_in 147 rfl rfl, List.forall_mem_cons.mpr ⟨fj_in 148 rfl rfl, List.forall_mem_cons.mpr ⟨fj_in 149 rfl rfl, List.forall_mem_cons.mpr ⟨fj_in 150 rfl rfl, List.forall_mem_cons.mpr ⟨fj_in 151 rfl rfl, List.forall_mem_cons.mpr ⟨fj_in 152 rfl rfl, List.forall_mem_cons.mpr ⟨fj_in 153 rfl rfl, List.forall_mem_cons.mpr ⟨fj_in 154 rfl rfl, List.forall_mem_cons.mpr ⟨fj_in 497 rfl rfl, List.forall_mem_cons.mpr ⟨fj_in 498 rfl rfl, List.forall_mem_cons.mpr ⟨fj_in 499 rfl rfl, List.forall_mem_cons.mpr ⟨fj_in 500 rfl rfl, List.forall_mem_cons.mpr ⟨fj_in 501 rfl rfl, List.forall_mem_cons.mpr ⟨fj_in 502 rfl rfl, List.forall_mem_cons.mpr ⟨fj_in 503 rfl rfl, List.forall_mem_cons.mpr ⟨fj_in 504 rfl rfl, fun _ h => absurd h List.not_mem_nil⟩⟩⟩⟩⟩⟩⟩⟩⟩⟩⟩⟩⟩⟩⟩⟩⟩⟩⟩⟩⟩⟩⟩⟩⟩
def fj_flw_l2 : List (Nat × Nat × Nat) := [(6034, 20, 8), (6037, 20, 9), (6040, 20, 10), (6043, 20, 11), (6046, 20, 12), (6049, 20, 13), (6052, 20, 14), (6055, 20, 15), (6058, 20, 16), (6061, 20, 17), (6184, 20, 18), (6120, 20, 19), (6117, 20, 20), (6123, 20, 21), (6067, 20, 22), (6071, 20, 23), (6082, 20, 24), (6107, 20, 25), (6064, 20, 26), (6110, 20, 27)]
set_option maxRecDepth 40000 in
theorem fj_flw_2 : ∀ q ∈ fj_flw_l2, Cond.fieldLink (fj_Rn (q.1 / 1000)) (q.1 % 1000) (fj_Tk q.2.1 q.2.2).1 (fj_Tk q.2.1 q.2.2).2.1 (fj_Tk q.2.1 q.2.2).2.2.1 ∈ fj_tb := List.forall_mem_cons.mpr ⟨fj_in 505 rfl rfl, List.forall_mem_cons.mpr ⟨fj_in 506 rfl rfl, List.forall_mem_cons.mpr ⟨fj_in 507 rfl rfl, List.forall_mem_cons.mpr ⟨fj_in 508 rfl rfl, List.forall_mem_cons.mpr ⟨fj_in 509 rfl rfl, List.forall_mem_cons.mpr ⟨fj_in 510 rfl rfl, List.forall_mem_cons.mpr ⟨fj_in 511 rfl rfl, List.forall_mem_cons.mpr ⟨fj_in 512 rfl rfl, List.forall_mem_cons.mpr ⟨fj_in 513 rfl rfl, List.forall_mem_cons.mpr ⟨fj_in 514 rfl rfl, List.forall_mem_cons.mpr ⟨fj_in 515 rfl rfl, List.forall_mem_cons.mpr ⟨fj_in 516 rfl rfl, List.forall_mem_cons.mpr ⟨fj_in 517 rfl rfl, List.forall_mem_cons.mpr ⟨fj_in 518 rfl rfl, List.forall_mem_cons.mpr ⟨fj_in 519 rfl rfl, List.forall_mem_cons.mpr ⟨fj_in 520 rfl rfl, List.forall_mem_cons.mpr ⟨fj_in 521 rfl rfl, List.forall_mem_cons.mpr ⟨fj_in 522 rfl rfl, List.forall_mem_cons.mpr ⟨fj_in 523 rfl rfl, List.forall_mem_cons.mpr ⟨fj_in 524 rfl rfl, fun _ h => absurd h List.not_mem_nil⟩⟩⟩⟩⟩⟩⟩⟩⟩⟩⟩⟩⟩⟩⟩⟩⟩⟩⟩⟩
theorem fj_flw_eq : fj_fl = fj_flw_l0 ++ (fj_flw_l1 ++ (fj_flw_l2)) := rfl
theorem fj_flw : ∀ q ∈ fj_fl, Cond.fieldLink (fj_Rn (q.1 / 1000)) (q.1 % 1000) (fj_Tk q.2.1 q.2.2).1 (fj_Tk q.2.1 q.2.2).2.1 (fj_Tk q.2.1 q.2.2).2.2.1 ∈ fj_tb := by
  rw [fj_flw_eq]
  exact List.forall_mem_append.mpr ⟨fj_flw_0, List.forall_mem_append.mpr ⟨fj_flw_1, fj_flw_2⟩⟩
set_option maxRecDepth 40000 in
theorem fj_min_w : Cond.methodLink (fj_Rn (fj_min / 1000)) (fj_min % 1000) Lib.Math.min.name ∈ fj_tb ∧ Cond.static Lib.Math.min.name ∈ fj_tb ∧ Cond.initialized "java/lang/Math" ∈ fj_tb ∧ Cond.code Lib.Math.min.name Lib.Math.min.code 2 (some .int) ∈ fj_tb := ⟨fj_in 439 rfl rfl, fj_in 440 rfl rfl, fj_in 57 rfl rfl, fj_in 441 rfl rfl⟩
def fj_flB (κ : Nat) (T : u_T) (N : Nat) (q : Nat × Nat × Nat) : Bool := !Nat.beq q.2.1 κ || (decide (q.2.2 < N) && ((fj_lk (κ * 100 + q.2.2) fj_F).isSome || (decide ((T q.2.2).2.2.2 = false) && decide (parseFieldDescriptor (T q.2.2).2.2.1 = some .int))))
theorem fj_fl0 : fj_fl.all (fj_flB 0 TX5 14) = true := by decide +kernel
theorem fj_fl7 : fj_fl.all (fj_flB 7 TX4 12) = true := by decide +kernel
theorem fj_fl10 : fj_fl.all (fj_flB 10 TX0 3) = true := by decide +kernel
theorem fj_fl20 : fj_fl.all (fj_flB 20 TX6 28) = true := by decide +kernel
theorem fj_fl_kinds : ∀ q ∈ fj_fl, q.2.1 = 0 ∨ q.2.1 = 7 ∨ q.2.1 = 10 ∨ q.2.1 = 20 := by decide +kernel
end
section
/-! THE FLAT MACHINE: frames over a memory of ints; references are (kind, number) -/
def fj_rd (M : fj_M) (κ i j : Nat) : Int32 := match Nat.ble 20 κ with
  | false => M.1 κ i j
  | true => M.2 κ i j
def fj_u1 (M : fj_N) (κ i j : Nat) (v : Int32) : fj_N := fun a b c => if a = κ ∧ b = i ∧ c = j then v else M a b c
def fj_up (M : fj_M) (κ i j : Nat) (v : Int32) : fj_M := match Nat.ble 20 κ with
  | false => (fj_u1 M.1 κ i j v, M.2)
  | true => (M.1, fj_u1 M.2 κ i j v)
def fj_tk (j : Nat) : Int32 := fj_tkL.getD j 0
def fj_gv (j : Nat) : Int32 := fj_gvL.getD j 0
/-- readable rows of ints: how long -/
def fj_ln (X : fj_X) (κ : Nat) : Option Nat := match κ with
  | 40 => some 46
  | 41 => some 46
  | 42 => some X.1
  | _ => match fj_lk κ fj_K with
    | some (_, 1, n, _) => some n
    | _ => none
def fj_gt (X : fj_X) (M : fj_M) (κ i j : Nat) : Int32 := match κ with
  | 40 => fj_tk j
  | 41 => fj_gv j
  | 42 => X.2 j
  | _ => fj_rd M κ i j
def fj_cm (c : Jvm.ClassFile.Cond) (x y : Int32) : Bool := match c with
  | .eq => decide (x = y)
  | .ne => !decide (x = y)
  | .lt => decide (x < y)
  | .ge => decide (y ≤ x)
  | .gt => decide (y < x)
  | .le => decide (x ≤ y)
def fj_sw (d : Nat) : List (Int32 × Nat) → Int32 → Nat
  | [], _ => d
  | q :: r, x => if x = q.1 then q.2 else fj_sw d r x
def fj_go (X : fj_X) (e : fj_I) (ls : fj_L) (st : List fj_V) (M : fj_M) : Option (Nat × fj_L × List fj_V × fj_M) :=
  match e.1 with
  | .iconst n => some (e.2.1, ls, .inl (Int32.ofInt n) :: st, M)
  | .bipush n => some (e.2.1, ls, .inl (Int8.ofInt n).toInt32 :: st, M)
  | .sipush n => some (e.2.1, ls, .inl (Int16.ofInt n).toInt32 :: st, M)
  | .ldc _ => match e.2.2.2 with
    | [q] => some (e.2.1, ls, .inl q.1 :: st, M)
    | _ => none
  | .ldc_w _ => match e.2.2.2 with
    | [q] => some (e.2.1, ls, .inl q.1 :: st, M)
    | _ => none
  | .iload_n k => match ls[(k : Nat)]? with
    | some (some (.inl x)) => some (e.2.1, ls, .inl x :: st, M)
    | _ => none
  | .iload k => match ls[k]? with
    | some (some (.inl x)) => some (e.2.1, ls, .inl x :: st, M)
    | _ => none
  | .aload_n k => match ls[(k : Nat)]? with
    | some (some (.inr r)) => some (e.2.1, ls, .inr r :: st, M)
    | _ => none
  | .istore_n k => match st with
    | .inl x :: st => some (e.2.1, ls.set (k : Nat) (some (.inl x)), st, M)
    | _ => none
  | .istore k => match st with
    | .inl x :: st => some (e.2.1, ls.set k (some (.inl x)), st, M)
    | _ => none
  | .astore_n k => match st with
    | .inr x :: st => some (e.2.1, ls.set (k : Nat) (some (.inr x)), st, M)
    | _ => none
  | .iinc k n => match ls[k]? with
    | some (some (.inl x)) => some (e.2.1, ls.set k (some (.inl (x + Int32.ofInt n))), st, M)
    | _ => none
  | .iadd => match st with
    | .inl y :: .inl x :: st => some (e.2.1, ls, .inl (x + y) :: st, M)
    | _ => none
  | .isub => match st with
    | .inl y :: .inl x :: st => some (e.2.1, ls, .inl (x - y) :: st, M)
    | _ => none
  | .imul => match st with
    | .inl y :: .inl x :: st => some (e.2.1, ls, .inl (x * y) :: st, M)
    | _ => none
  | .iand => match st with
    | .inl y :: .inl x :: st => some (e.2.1, ls, .inl (x &&& y) :: st, M)
    | _ => none
  | .ior => match st with
    | .inl y :: .inl x :: st => some (e.2.1, ls, .inl (x ||| y) :: st, M)
    | _ => none
  | .ixor => match st with
    | .inl y :: .inl x :: st => some (e.2.1, ls, .inl (x ^^^ y) :: st, M)
    | _ => none
  | .ishl => match st with
    | .inl y :: .inl x :: st => some (e.2.1, ls, .inl (x <<< (y &&& 31)) :: st, M)
    | _ => none
  | .ishr => match st with
    | .inl y :: .inl x :: st => some (e.2.1, ls, .inl (x >>> (y &&& 31)) :: st, M)
    | _ => none
  | .ineg => match st with
    | .inl x :: st => some (e.2.1, ls, .inl (-x) :: st, M)
    | _ => none
  | .idiv => match st with
    | .inl y :: .inl x :: st => if y = 0 then none else some (e.2.1, ls, .inl (x / y) :: st, M)
    | _ => none
  | .irem => match st with
    | .inl y :: .inl x :: st => if y = 0 then none else some (e.2.1, ls, .inl (x - x / y * y) :: st, M)
    | _ => none
  | .dup => match st with
    | v :: st => some (e.2.1, ls, v :: v :: st, M)
    | _ => none
  | .pop => match st with
    | _ :: st => some (e.2.1, ls, st, M)
    | _ => none
  | .dup2 => match st with
    | a :: b :: st => some (e.2.1, ls, a :: b :: a :: b :: st, M)
    | _ => none
  | .dup_x1 => match st with
    | a :: b :: st => some (e.2.1, ls, a :: b :: a :: st, M)
    | _ => none
  | .getfield _ => match st with
    | .inr r :: st => match Nat.beq (e.2.2.1 / 100) r.1 with
      | true => match fj_lk e.2.2.1 fj_F with
        | some κ => some (e.2.1, ls, .inr (κ, r.2) :: st, M)
        | none => some (e.2.1, ls, .inl (fj_rd M (e.2.2.1 / 100) r.2 (e.2.2.1 % 100)) :: st, M)
      | false => none
    | _ => none
  | .putfield _ => match st with
    | .inl v :: .inr r :: st => match Nat.beq (e.2.2.1 / 100) r.1 with
      | true => match fj_lk e.2.2.1 fj_F with
        | some _ => none
        | none => some (e.2.1, ls, st, fj_up M (e.2.2.1 / 100) r.2 (e.2.2.1 % 100) v)
      | false => none
    | _ => none
  | .getstatic _ => some (e.2.1, ls, .inr (e.2.2.1, 0) :: st, M)
  | .iaload => match st with
    | .inl x :: .inr r :: st => match fj_ln X r.1 with
      | some n => if x < 0 ∨ n ≤ x.toNatClampNeg then none else some (e.2.1, ls, .inl (fj_gt X M r.1 r.2 x.toNatClampNeg) :: st, M)
      | none => none
    | _ => none
  | .iastore => match st with
    | .inl v :: .inl x :: .inr r :: st => match fj_lk r.1 fj_K with
      | some (_, 1, n, _) => if x < 0 ∨ n ≤ x.toNatClampNeg then none else some (e.2.1, ls, st, fj_up M r.1 r.2 x.toNatClampNeg v)
      | _ => none
    | _ => none
  | .aaload => match st with
    | .inl x :: .inr r :: st => match fj_lk r.1 fj_K with
      | some (_, 2, n, κ) => if x < 0 ∨ n ≤ x.toNatClampNeg then none else some (e.2.1, ls, .inr (κ, x.toNatClampNeg) :: st, M)
      | _ => none
    | _ => none
  | .arraylength => match st with
    | .inr r :: st => match fj_ln X r.1 with
      | some n => some (e.2.1, ls, .inl (Int32.ofNat n) :: st, M)
      | none => none
    | _ => none
  | .invokestatic _ => match Nat.beq e.2.2.1 999 with
    | true => match st with
      | .inl y :: .inl x :: st => some (e.2.1, ls, .inl (if y < x then y else x) :: st, M)
      | _ => none
    | false => none
  | .goto _ => some (e.2.2.1, ls, st, M)
  | .ifCond c _ => match st with
    | .inl x :: st => some (bif fj_cm c x 0 then e.2.2.1 else e.2.1, ls, st, M)
    | _ => none
  | .if_icmp c _ => match st with
    | .inl y :: .inl x :: st => some (bif fj_cm c x y then e.2.2.1 else e.2.1, ls, st, M)
    | _ => none
  | .tableswitch _ _ _ _ => match st with
    | .inl x :: st => some (fj_sw e.2.2.1 e.2.2.2 x, ls, st, M)
    | _ => none
  | .lookupswitch _ _ => match st with
    | .inl x :: st => some (fj_sw e.2.2.1 e.2.2.2 x, ls, st, M)
    | _ => none
  | _ => none
def fj_cut : Nat → List fj_V → List fj_V → Option (List fj_V × List fj_V)
  | 0, acc, st => some (acc, st)
  | _ + 1, _, [] => none
  | n + 1, acc, v :: st => fj_cut n (v :: acc) st
def fj_en (as : List fj_V) (n : Nat) : fj_L := as.map some ++ List.replicate (n - as.length) none
def fj_ps (r : Option Int32) (st : List fj_V) : List fj_V := match r with
  | some v => .inl v :: st
  | none => st
/-- the kind of a receiver, by the own number -/
def fj_rk (o : Nat) : Nat := match o with
  | 0 => 10
  | 4 => 7
  | 5 => 0
  | _ => 20
def fj_isr (κ : Nat) : List fj_V → Bool
  | .inr r :: _ => Nat.beq r.1 κ
  | _ => false
/-- no reference to the script -/
def fj_nX : fj_V → Bool
  | .inl _ => true
  | .inr r => Nat.ble r.1 41
/-- what comes: the end, the next frame, or a call and what goes on behind it -/
def fj_dec (X : fj_X) (c : fj_C) : Option (fj_R ⊕ (fj_C ⊕ (fj_C × (fj_R → fj_C)))) :=
  match fj_code c.1 c.2.1 with
  | none => none
  | some e => match e.1 with
    | .ireturn => match c.2.2.2.1 with
      | [.inl v] => match fj_rt c.1 with
        | 0 => none
        | 1 => some (.inl (some v, c.2.2.2.2))
        | _ => if v = 0 ∨ v = 1 then some (.inl (some v, c.2.2.2.2)) else none
      | _ => none
    | .return_ => match c.2.2.2.1 with
      | [] => match fj_rt c.1 with
        | 0 => some (.inl (none, c.2.2.2.2))
        | _ => none
      | _ => none
    | .invokevirtual _ => match fj_cut (fj_na e.2.2.1) [] c.2.2.2.1 with
      | some q => match fj_isr (fj_rk (fj_ow e.2.2.1)) q.1 && Nat.ble q.2.length 8 && !fj_sta e.2.2.1 && q.1.all fj_nX with
        | true => some (.inr (.inr ((e.2.2.1, 0, fj_en q.1 (fj_nL e.2.2.1), [], c.2.2.2.2), fun r => (c.1, e.2.1, c.2.2.1, fj_ps r.1 q.2, r.2))))
        | false => none
      | none => none
    | .invokestatic _ => match Nat.beq e.2.2.1 999 with
      | false => match fj_cut (fj_na e.2.2.1) [] c.2.2.2.1 with
        | some q => match Nat.ble q.2.length 8 && fj_sta e.2.2.1 && q.1.all fj_nX with
          | true => some (.inr (.inr ((e.2.2.1, 0, fj_en q.1 (fj_nL e.2.2.1), [], c.2.2.2.2), fun r => (c.1, e.2.1, c.2.2.1, fj_ps r.1 q.2, r.2))))
          | false => none
        | none => none
      | true => match Nat.ble c.2.2.2.1.length 10, fj_go X e c.2.2.1 c.2.2.2.1 c.2.2.2.2 with
        | true, some d => some (.inr (.inl (c.1, d)))
        | _, _ => none
    | _ => match fj_go X e c.2.2.1 c.2.2.2.1 c.2.2.2.2 with
      | some d => some (.inr (.inl (c.1, d)))
      | none => none
def fj_ex (X : fj_X) : Nat → fj_C → Option fj_R
  | 0, _ => none
  | n + 1, c => match fj_dec X c with
    | none => none
    | some (.inl r) => some r
    | some (.inr (.inl d)) => fj_ex X n d
    | some (.inr (.inr q)) => match fj_ex X n q.1 with
      | none => none
      | some r => fj_ex X n (q.2 r)
theorem fj_mono (X : fj_X) : ∀ (n : Nat) (c : fj_C) (r : fj_R), fj_ex X n c = some r → fj_ex X (n + 1) c = some r := by
  intro n
  induction n with
  | zero => intro c r h; simp [fj_ex] at h
  | succ n ih =>
    intro c r h
    rw [fj_ex] at h
    rw [fj_ex]
    cases hd : fj_dec X c with
    | none => rw [hd] at h; simp at h
    | some d =>
      rw [hd] at h
      match d with
      | .inl r' => exact h
      | .inr (.inl d) => exact ih d r h
      | .inr (.inr q) =>
        simp only at h ⊢
        cases hq : fj_ex X n q.1 with
        | none => rw [hq] at h; simp at h
        | some r1 =>
          rw [hq] at h
          simp only at h
          rw [ih _ _ hq]
          exact ih _ _ h
theorem fj_mono' (X : fj_X) {n m : Nat} (hm : n ≤ m) {c : fj_C} {r : fj_R} (h : fj_ex X n c = some r) : fj_ex X m c = some r := by
  induction hm with
  | refl => exact h
  | step _ ih => exact fj_mono X _ _ _ ih
/-- the frame c comes to the end r -/
def fj_ev (X : fj_X) (c : fj_C) (r : fj_R) : Prop := ∃ n, fj_ex X n c = some r
theorem fj_end {X : fj_X} {c : fj_C} {r : fj_R} (h : fj_dec X c = some (.inl r)) : fj_ev X c r := ⟨1, by rw [fj_ex, h]⟩
theorem fj_nx {X : fj_X} {c d : fj_C} {r : fj_R} (h : fj_dec X c = some (.inr (.inl d))) (k : fj_ev X d r) : fj_ev X c r := by
  obtain ⟨n, hn⟩ := k
  exact ⟨n + 1, by rw [fj_ex, h]; exact hn⟩
theorem fj_cl {X : fj_X} {c : fj_C} {q : fj_C × (fj_R → fj_C)} {r1 r : fj_R} (h : fj_dec X c = some (.inr (.inr q))) (h1 : fj_ev X q.1 r1) (k : fj_ev X (q.2 r1) r) : fj_ev X c r := by
  obtain ⟨n, hn⟩ := h1
  obtain ⟨m, hm⟩ := k
  refine ⟨max n m + 1, ?_⟩
  rw [fj_ex, h]
  simp only
  rw [fj_mono' X (Nat.le_max_left n m) hn]
  exact fj_mono' X (Nat.le_max_right n m) hm
end
section
/-! THE CELLS OF THE FLAT MACHINE'S MEMORY -/
theorem fj_nn {α : Type} {d : α} {P : Prop} (h : (none : Option α) = some d) : P := by cases h
theorem fj_sj {α : Type} {a d : α} (h : some a = some d) : a = d := Option.some.inj h
def fj_vv (ad : Nat → Nat → Nat) : fj_V → Value
  | .inl x => .int x
  | .inr r => .ref (ad r.1 r.2)
theorem fj_vv_cat (ad : Nat → Nat → Nat) (v : fj_V) : (fj_vv ad v).category = 1 := by cases v <;> rfl
def fj_fv (ad : Nat → Nat → Nat) (M : fj_M) (κ i j : Nat) : Value := match fj_lk (κ * 100 + j) fj_F with
  | some κ2 => .ref (ad κ2 i)
  | none => .int (fj_rd M κ i j)
def fj_E (ad : Nat → Nat → Nat) (cI : ClassId) (cR : Nat → ClassId) (M : fj_M) (κ i : Nat) : va_E := match fj_lk κ fj_K with
  | some (_, 0, a, b) => .inr (a, (List.range b).map (fj_fv ad M κ i))
  | some (_, 1, a, _) => .inl (cI, a, .inl (fj_rd M κ i))
  | some (_, _, a, b) => .inl (cR b, a, .inr (.inr (.inr (.inr (fun j => some (ad b j))))))
  | none => .inr (0, [])
def fj_ws (ad : Nat → Nat → Nat) (cI : ClassId) (cR : Nat → ClassId) (M : fj_M) : va_W := fj_cells.map (fun c => (ad c.1 c.2, fj_E ad cI cR M c.1 c.2))
def fj_ty (cI : ClassId) (cR : Nat → ClassId) : List (ClassId × FieldType) := [(cI, .int), (cR 7, .object RX4), (cR 10, .object RX0)]
theorem fj_rd_up (M : fj_M) (κ i j : Nat) (v : Int32) (a b c : Nat) : fj_rd (fj_up M κ i j v) a b c = if a = κ ∧ b = i ∧ c = j then v else fj_rd M a b c := by
  by_cases ha : a = κ
  · subst ha
    unfold fj_rd fj_up
    cases Nat.ble 20 a <;> simp [fj_u1]
  · rw [if_neg (fun h => ha h.1)]
    unfold fj_rd fj_up
    cases Nat.ble 20 a <;> cases Nat.ble 20 κ <;> simp [fj_u1, ha]
theorem fj_E_ne {ad : Nat → Nat → Nat} {cI : ClassId} {cR : Nat → ClassId} {M : fj_M} {κ a j : Nat} {v : Int32} {κ' a' : Nat} (h : ¬ (κ' = κ ∧ a' = a)) : fj_E ad cI cR (fj_up M κ a j v) κ' a' = fj_E ad cI cR M κ' a' := by
  have hr : fj_rd (fj_up M κ a j v) κ' a' = fj_rd M κ' a' := funext fun c => by rw [fj_rd_up, if_neg (fun q => h ⟨q.1, q.2.1⟩)]
  have hf : fj_fv ad (fj_up M κ a j v) κ' a' = fj_fv ad M κ' a' := funext fun c => by unfold fj_fv; rw [hr]
  unfold fj_E
  rw [hr, hf]
theorem fj_cells_all : ∀ q ∈ fj_K, ∀ a, a < q.2.1 → (q.1, a) ∈ fj_cells := by decide +kernel
theorem fj_cells_one : ∀ i, i < 75 → ∀ j, j < 75 → fj_cells[i]? = fj_cells[j]? → i = j := by decide +kernel
theorem fj_cells_len : fj_cells.length = 75 := by decide +kernel
theorem fj_cell_at {κ a : Nat} {t : Nat × Nat × Nat × Nat} (h : fj_lk κ fj_K = some t) (ha : a < t.1) : ∃ p : Nat, fj_cells[p]? = some (κ, a) := List.getElem?_of_mem (fj_cells_all _ (fj_lk_mem h) a ha)
section FJW
variable {ad : Nat → Nat → Nat} {cI : ClassId} {cR : Nat → ClassId} {M : fj_M} {κ a j p n N ci : Nat} {v : Int32}
theorem fj_ws_at (hp : fj_cells[p]? = some (κ, a)) : (fj_ws ad cI cR M)[p]? = some (ad κ a, fj_E ad cI cR M κ a) := by
  unfold fj_ws
  rw [List.getElem?_map, hp]
  rfl
theorem fj_ws_set (hp : fj_cells[p]? = some (κ, a)) {e : va_E} (he : e = fj_E ad cI cR (fj_up M κ a j v) κ a) : (fj_ws ad cI cR M).set p (ad κ a, e) = fj_ws ad cI cR (fj_up M κ a j v) := by
  subst he
  have hpl : p < 75 := by rw [← fj_cells_len]; exact (List.getElem?_eq_some_iff.mp hp).1
  apply List.ext_getElem?
  intro q
  by_cases hq : q = p
  · subst hq
    rw [List.getElem?_set_self (by unfold fj_ws; rw [List.length_map, fj_cells_len]; exact hpl), fj_ws_at hp]
  · rw [List.getElem?_set_ne (Ne.symm hq)]
    unfold fj_ws
    rw [List.getElem?_map, List.getElem?_map]
    cases hc : fj_cells[q]? with
    | none => rfl
    | some c =>
      have hql : q < 75 := by rw [← fj_cells_len]; exact (List.getElem?_eq_some_iff.mp hc).1
      have hne : ¬ (c.1 = κ ∧ c.2 = a) := fun h => hq (fj_cells_one q hql p hpl (by rw [hc, hp, ← h.1, ← h.2]))
      show some (ad c.1 c.2, fj_E ad cI cR M c.1 c.2) = some (ad c.1 c.2, fj_E ad cI cR (fj_up M κ a j v) c.1 c.2)
      rw [fj_E_ne hne]
theorem fj_E_obj (h : fj_lk κ fj_K = some (n, 0, ci, N)) : fj_E ad cI cR M κ a = .inr (ci, (List.range N).map (fj_fv ad M κ a)) := by
  unfold fj_E
  rw [h]
  rfl
theorem fj_E_arr {b : Nat} (h : fj_lk κ fj_K = some (n, 1, N, b)) : fj_E ad cI cR M κ a = .inl (cI, N, .inl (fj_rd M κ a)) := by
  unfold fj_E
  rw [h]
  rfl
theorem fj_E_ref {b : Nat} (h : fj_lk κ fj_K = some (n, 2, N, b)) : fj_E ad cI cR M κ a = .inl (cR b, N, .inr (.inr (.inr (.inr (fun j => some (ad b j)))))) := by
  unfold fj_E
  rw [h]
  rfl
theorem fj_fs_set (hF : fj_lk (κ * 100 + j) fj_F = none) (hj : j < N) : ((List.range N).map (fj_fv ad M κ a)).set j (.int v) = (List.range N).map (fj_fv ad (fj_up M κ a j v) κ a) := by
  apply List.ext_getElem?
  intro q
  by_cases hq : q = j
  · subst hq
    rw [List.getElem?_set_self (by simpa using hj), List.getElem?_map, List.getElem?_range hj]
    simp [fj_fv, hF, fj_rd_up]
  · rw [List.getElem?_set_ne (Ne.symm hq), List.getElem?_map, List.getElem?_map]
    by_cases hqN : q < N
    · rw [List.getElem?_range hqN]
      show some _ = some _
      unfold fj_fv
      rw [fj_rd_up, if_neg (fun h => hq h.2.2)]
    · rw [List.getElem?_eq_none (by simpa using hqN)]
      rfl
theorem fj_arr_upd : upd (fj_rd M κ a) j v = fj_rd (fj_up M κ a j v) κ a := funext fun q => by
  rw [fj_rd_up]
  unfold upd
  simp
end FJW
/-- a reference that there is -/
def fj_val (sc : Prop) (v : fj_V) : Prop := match v with
  | .inl _ => True
  | .inr r => (∃ t, fj_lk r.1 fj_K = some t ∧ r.2 < t.1) ∨ r = (40, 0) ∨ r = (41, 0) ∨ (r = (42, 0) ∧ sc)
def fj_vals (sc : Prop) (ls : fj_L) (st : List fj_V) : Prop := (∀ (i : Nat) (v : fj_V), ls[i]? = some (some v) → fj_val sc v) ∧ ∀ v ∈ st, fj_val sc v
theorem fj_vals.set {sc : Prop} {ls : fj_L} {st st' : List fj_V} {k : Nat} {v : fj_V} (h : fj_vals sc ls st) (hv : fj_val sc v) (hs : ∀ w ∈ st', fj_val sc w) : fj_vals sc (ls.set k (some v)) st' := by
  refine ⟨fun i w hi => ?_, hs⟩
  by_cases hk : i = k
  · subst hk
    by_cases hl : i < ls.length
    · rw [List.getElem?_set_self hl] at hi
      cases hi
      exact hv
    · rw [List.getElem?_eq_none (by simpa using hl)] at hi
      cases hi
  · rw [List.getElem?_set_ne (Ne.symm hk)] at hi
    exact h.1 i w hi
/-- the locals -/
def fj_has (ad : Nat → Nat → Nat) (lsA : Array Slot) (nL : Nat) (ls : fj_L) : Prop := lsA.size = nL ∧ lv_wf lsA ∧ ls.length = nL ∧ ∀ (i : Nat) (v : fj_V), ls[i]? = some (some v) → lsA[i]? = some (.val (fj_vv ad v))
def fj_prs (ad : Nat → Nat → Nat) (ls : fj_L) : List (Nat × Value) := (List.range ls.length).filterMap (fun i => match ls[i]? with
  | some (some v) => some (i, fj_vv ad v)
  | _ => none)
theorem fj_prs_mem {ad : Nat → Nat → Nat} {ls : fj_L} {q : Nat × Value} : q ∈ fj_prs ad ls ↔ ∃ v, ls[q.1]? = some (some v) ∧ q.2 = fj_vv ad v := by
  unfold fj_prs
  rw [List.mem_filterMap]
  constructor
  · rintro ⟨i, hi, h⟩
    cases hc : ls[i]? with
    | none => rw [hc] at h; cases h
    | some o =>
      rw [hc] at h
      cases o with
      | none => cases h
      | some v =>
        cases h
        exact ⟨v, hc, rfl⟩
  · rintro ⟨v, h, h2⟩
    refine ⟨q.1, List.mem_range.mpr (List.getElem?_eq_some_iff.mp h).1, ?_⟩
    rw [h]
    show some (q.1, fj_vv ad v) = some q
    rw [← h2]
theorem fj_has.lv {ad : Nat → Nat → Nat} {lsA : Array Slot} {nL : Nat} {ls : fj_L} (h : fj_has ad lsA nL ls) : lv_has lsA nL (fj_prs ad ls) := by
  refine ⟨h.1, h.2.1, fun q hq => ?_⟩
  obtain ⟨v, h1, h2⟩ := fj_prs_mem.mp hq
  rw [h2]
  exact h.2.2.2 _ _ h1
theorem fj_has.set {ad : Nat → Nat → Nat} {lsA lsA' : Array Slot} {nL : Nat} {ls : fj_L} {i : Nat} {v : fj_V} (h : fj_has ad lsA nL ls) (h' : lv_has lsA' nL ((i, fj_vv ad v) :: (fj_prs ad ls).filter (fun q => !(q.1 == i) && !(q.1 + 1 == i && q.2.category == 2)))) : fj_has ad lsA' nL (ls.set i (some v)) := by
  refine ⟨h'.1, h'.2.1, by rw [List.length_set]; exact h.2.2.1, fun j w hj => ?_⟩
  by_cases hji : j = i
  · subst hji
    by_cases hl : j < ls.length
    · rw [List.getElem?_set_self hl] at hj
      cases hj
      exact h'.2.2 _ List.mem_cons_self
    · rw [List.getElem?_eq_none (by simpa using hl)] at hj
      cases hj
  · rw [List.getElem?_set_ne (Ne.symm hji)] at hj
    refine h'.2.2 (j, fj_vv ad w) (List.mem_cons_of_mem _ (List.mem_filter.mpr ⟨fj_prs_mem.mpr ⟨w, hj, rfl⟩, ?_⟩))
    simp [hji, fj_vv_cat]
theorem fj_largs (ad : Nat → Nat → Nat) : ∀ (as : List fj_V) (o i : Nat) (v : fj_V), as[i]? = some v → (o + i, fj_vv ad v) ∈ lv_args o (as.map (fj_vv ad))
  | [], o, i, v, h => by simp at h
  | a :: as, o, 0, v, h => by
    simp at h
    subst h
    exact List.mem_cons_self
  | a :: as, o, i + 1, v, h => by
    have h1 := fj_largs ad as (o + 1) i v (by simpa using h)
    show _ ∈ (o, fj_vv ad a) :: lv_args (if (fj_vv ad a).category = 2 then o + 2 else o + 1) (as.map (fj_vv ad))
    rw [if_neg (by rw [fj_vv_cat]; decide)]
    rw [show o + (i + 1) = o + 1 + i by omega]
    exact List.mem_cons_of_mem _ h1
theorem fj_lgsl (ad : Nat → Nat → Nat) (as : List fj_V) : (lg_sl (as.map (fj_vv ad))).length = as.length := by
  induction as with
  | nil => rfl
  | cons a as ih =>
    have : lg_sl ((a :: as).map (fj_vv ad)) = (if (fj_vv ad a).category = 2 then [Slot.val (fj_vv ad a), .second] else [.val (fj_vv ad a)]) ++ lg_sl (as.map (fj_vv ad)) := rfl
    rw [this, if_neg (by rw [fj_vv_cat]; decide), List.length_append, ih, List.length_cons, List.length_cons, List.length_nil]
    omega
theorem fj_en_at {as : List fj_V} {n i : Nat} {v : fj_V} (h : (fj_en as n)[i]? = some (some v)) : as[i]? = some v := by
  unfold fj_en at h
  by_cases hi : i < as.length
  · rw [List.getElem?_append_left (by simpa using hi), List.getElem?_map] at h
    cases hc : as[i]? with
    | none => rw [hc] at h; cases h
    | some w =>
      rw [hc] at h
      exact congrArg some (Option.some.inj (Option.some.inj h))
  · rw [List.getElem?_append_right (by simpa using hi)] at h
    have := List.mem_of_getElem? h
    have := List.eq_of_mem_replicate this
    cases this
theorem fj_entry (ad : Nat → Nat → Nat) (as : List fj_V) {n : Nat} (h : as.length ≤ n) : fj_has ad ((lg_sl (as.map (fj_vv ad)) ++ List.replicate (n - (lg_sl (as.map (fj_vv ad))).length) Slot.unset).toArray) n (fj_en as n) := by
  obtain ⟨h1, h2, h3⟩ := lv_entry (as.map (fj_vv ad)) (n := n) (by rw [fj_lgsl]; exact h)
  refine ⟨h1, h2, ?_, fun i v hi => ?_⟩
  · unfold fj_en
    rw [List.length_append, List.length_map, List.length_replicate]
    omega
  · have := h3 _ (fj_largs ad as 0 i v (fj_en_at hi))
    rw [Nat.zero_add] at this
    exact this
theorem fj_cut_eq : ∀ (n : Nat) (acc st : List fj_V) (q : List fj_V × List fj_V), fj_cut n acc st = some q → q.1.length = acc.length + n ∧ acc.reverse ++ st = q.1.reverse ++ q.2
  | 0, acc, st, q, h => by
    cases h
    simp
  | n + 1, acc, [], q, h => by cases h
  | n + 1, acc, v :: st, q, h => by
    obtain ⟨h2, h3⟩ := fj_cut_eq n (v :: acc) st q h
    exact ⟨by rw [h2]; simp only [List.length_cons]; omega, by rw [← h3]; simp⟩
theorem fj_cut_st {n : Nat} {st : List fj_V} {q : List fj_V × List fj_V} (h : fj_cut n [] st = some q) : st = q.1.reverse ++ q.2 ∧ q.1.length = n := by
  obtain ⟨h2, h3⟩ := fj_cut_eq n [] st q h
  exact ⟨by simpa using h3, by simpa using h2⟩
end
section
/-! THE FLAT MACHINE'S INSTRUCTIONS ARE THE JVM'S -/
def fj_St (ad : Nat → Nat → Nat) (A : Nat → Prop) (U : State) (H : Heap) : Prop := va_Z RX2 "TAKES" "[I" (.ref (ad 40 0)) A U H ∧ va_T .int (ad 40 0) 46 (fun j => .int (fj_tk j)) A U H ∧ va_Z RX2 "GIVES" "[I" (.ref (ad 41 0)) A U H ∧ va_T .int (ad 41 0) 46 (fun j => .int (fj_gv j)) A U H
/-- what stays while a frame of method k runs -/
def fj_Fix (X : fj_X) (sc : Prop) (D : va_G) (ad : Nat → Nat → Nat) (cI : ClassId) (cR : Nat → ClassId) (A : Nat → Prop) (p : Program) (R : Room) (s : State) (m : MethodId) (args : Array Value) (c : Code) (k cells slots : Nat) : Prop :=
  p.tables.exec = Jvm.exec ∧ c.code = fj_b k ∧ c.maxLocals = fj_nL k ∧ s.vm.findClass (fj_Rn (fj_ow k)) = some m.cls ∧ (∀ w ∈ fj_tb, w.before args s = true) ∧ va_K D vwCl (fj_ty cI cR) s ∧ fj_St ad A s s.heap ∧ (∀ q : Nat, s.heap.size ≤ q → A q) ∧ (sc → va_X (ad 42 0) X.1 X.2 s s.heap ∧ ad 42 0 < s.heap.size ∧ ¬ A (ad 42 0)) ∧ (fj_fr k ≤ R.frames ∧ fj_lc k ≤ R.locals) ∧ (cells ≤ R.cells ∧ slots ≤ R.slots)
def fj_Wd (D : va_G) (ad : Nat → Nat → Nat) (cI : ClassId) (cR : Nat → ClassId) (A : Nat → Prop) (s : State) (M : fj_M) (H : Heap) (locs : List Loc) : Prop := va_P D vwCl (fj_ws ad cI cR M) H ∧ va_D A (fj_ws ad cI cR M) ∧ va_S A s.heap H locs
/-- what the tables say of an object's kind -/
theorem fj_objs {key κ j : Nat} (h : (key, κ, j) ∈ fj_fl) : ∃ (n ci : Nat) (C : String) (T : u_T) (N : Nat) (ty : Nat → FieldType), fj_lk κ fj_K = some (n, 0, ci, N) ∧ vwCl[ci]? = some (C, T, N) ∧ (∀ w ∈ u_ws C T N, w ∈ fj_tb) ∧ (∀ k, k < N → parseFieldDescriptor (T k).2.2.1 = some (ty k)) ∧ (∀ a, a < N → ∀ b, b < N → a ≠ b → (T a).2.1 ≠ (T b).2.1) ∧ j < N ∧ Cond.fieldLink (fj_Rn (key / 1000)) (key % 1000) (T j).1 (T j).2.1 (T j).2.2.1 ∈ fj_tb ∧ (fj_lk (κ * 100 + j) fj_F = none → (T j).2.2.2 = false ∧ parseFieldDescriptor (T j).2.2.1 = some .int) := by
  have key1 : ∀ (T : u_T) (N : Nat), fj_Tk κ = T → fj_flB κ T N (key, κ, j) = true → j < N ∧ Cond.fieldLink (fj_Rn (key / 1000)) (key % 1000) (T j).1 (T j).2.1 (T j).2.2.1 ∈ fj_tb ∧ (fj_lk (κ * 100 + j) fj_F = none → (T j).2.2.2 = false ∧ parseFieldDescriptor (T j).2.2.1 = some .int) := by
    intro T N hT hq
    have hw := fj_flw _ h
    simp only [hT] at hw
    have hb : Nat.beq κ κ = true := Nat.beq_refl κ
    simp only [fj_flB, hb, Bool.not_true, Bool.false_or, Bool.and_eq_true, Bool.or_eq_true, decide_eq_true_eq] at hq
    obtain ⟨h1, h3⟩ := hq
    refine ⟨h1, hw, fun h4 => ?_⟩
    rcases h3 with h3 | h3
    · rw [h4] at h3
      cases h3
    · exact h3
  rcases fj_fl_kinds _ h with h0 | h0 | h0 | h0
  · have h0 : κ = 0 := h0
    subst h0
    have hq := key1 TX5 14 rfl (List.all_eq_true.mp fj_fl0 _ h)
    exact ⟨1, 2, RX5, TX5, 14, tyX5, rfl, rfl, fj_lay5, tyX5_ok, nmX5, hq.1, hq.2.1, hq.2.2⟩
  · have h0 : κ = 7 := h0
    subst h0
    have hq := key1 TX4 12 rfl (List.all_eq_true.mp fj_fl7 _ h)
    exact ⟨12, 1, RX4, TX4, 12, tyX4, rfl, rfl, fj_lay4, tyX4_ok, nmX4, hq.1, hq.2.1, hq.2.2⟩
  · have h0 : κ = 10 := h0
    subst h0
    have hq := key1 TX0 3 rfl (List.all_eq_true.mp fj_fl10 _ h)
    exact ⟨6, 0, RX0, TX0, 3, tyX0, rfl, rfl, fj_lay0, tyX0_ok, nmX0, hq.1, hq.2.1, hq.2.2⟩
  · have h0 : κ = 20 := h0
    subst h0
    have hq := key1 TX6 28 rfl (List.all_eq_true.mp fj_fl20 _ h)
    exact ⟨1, 3, RX6, TX6, 28, tyX6, rfl, rfl, fj_lay6, tyX6_ok, nmX6, hq.1, hq.2.1, hq.2.2⟩
theorem fj_div {o i : Nat} (h : i < 1000) : (o * 1000 + i) / 1000 = o ∧ (o * 1000 + i) % 1000 = i := by omega
/-- a field that holds a reference: the kinds' numbers agree -/
theorem fj_F_ok : ∀ q ∈ fj_fl, ∀ κ2, fj_lk (q.2.1 * 100 + q.2.2) fj_F = some κ2 → (fj_lk κ2 fj_K).map (fun t => t.1) = (fj_lk q.2.1 fj_K).map (fun t => t.1) := by
  intro q hq κ2 h
  have h1 : fj_fl.all (fun q => match fj_lk (q.2.1 * 100 + q.2.2) fj_F with | some κ2 => decide ((fj_lk κ2 fj_K).map (fun t => t.1) = (fj_lk q.2.1 fj_K).map (fun t => t.1)) | none => true) = true := by decide +kernel
  have h2 := List.all_eq_true.mp h1 q hq
  rw [h] at h2
  exact of_decide_eq_true h2
theorem fj_ref_ok : ∀ q ∈ fj_K, q.2.2.1 = 2 → (fj_lk q.2.2.2.2 fj_K).map (fun t => t.1) = some q.2.2.2.1 ∧ (q.2.2.2.2 = 7 ∨ q.2.2.2.2 = 10) := by decide +kernel
theorem fj_K_small : ∀ q ∈ fj_K, q.1 < 40 := by decide +kernel
theorem fj_sw_in {d : Nat} {x : Int32} : ∀ (sw : List (Int32 × Nat)), (∃ (i : Nat) (q : Int32 × Nat), sw[i]? = some q ∧ q.1 = x ∧ fj_sw d sw x = q.2) ∨ ((∀ q ∈ sw, q.1 ≠ x) ∧ fj_sw d sw x = d)
  | [] => Or.inr ⟨fun q h => absurd h List.not_mem_nil, rfl⟩
  | q :: r => by
    by_cases h : x = q.1
    · exact Or.inl ⟨0, q, rfl, h.symm, by unfold fj_sw; rw [if_pos h]⟩
    · have e : fj_sw d (q :: r) x = fj_sw d r x := by
        show (if x = q.1 then q.2 else fj_sw d r x) = _
        rw [if_neg h]
      rcases fj_sw_in (d := d) (x := x) r with ⟨i, q2, h1, h2, h3⟩ | ⟨h1, h2⟩
      · exact Or.inl ⟨i + 1, q2, h1, h2, by rw [e]; exact h3⟩
      · exact Or.inr ⟨List.forall_mem_cons.mpr ⟨fun z => h z.symm, h1⟩, by rw [e]; exact h2⟩
section FJG
variable {X : fj_X} {sc : Prop} {D : va_G} {ad : Nat → Nat → Nat} {cI : ClassId} {cR : Nat → ClassId} {A : Nat → Prop} {p : Program} {l : Launch} {e : Env} {R : Room} {s : State} {m : MethodId} {args : Array Value} {below : List Frame} {meth : Method} {c : Code} {k cells slots : Nat} {Q : State → Prop}
variable {pc nx tg : Nat} {sw : List (Int32 × Nat)} {ls : fj_L} {st : List fj_V} {M : fj_M} {d : Nat × fj_L × List fj_V × fj_M} {H : Heap} {locs : List Loc} {lsA : Array Slot}
theorem fj_g_iadd  (Fx : fj_Fix X sc D ad cI cR A p R s m args c k cells slots) (he : fj_code k pc = some (.iadd, nx, tg, sw)) (hg : fj_go X (.iadd, nx, tg, sw) ls st M = some d) (hw : fj_Wd D ad cI cR A s M H locs) (hl : fj_has ad lsA (fj_nL k) ls) (hv : fj_vals sc ls st)
    (kk : ∀ (H' : Heap) (locs' : List Loc) (lsA' : Array Slot), fj_Wd D ad cI cR A s d.2.2.2 H' locs' → fj_has ad lsA' (fj_nL k) d.2.1 → fj_vals sc d.2.1 d.2.2.1 → W p l e R s m args below meth c H' locs' cells slots Q (F0 m d.1 lsA' (d.2.2.1.map (fj_vv ad)))) : W p l e R s m args below meth c H locs cells slots Q (F0 m pc lsA (st.map (fj_vv ad))) := by
  obtain ⟨hx, hb, hml, hown, hts, hK, hSt, hA, hsc, hR, hcs⟩ := Fx
  obtain ⟨hP, hD, hS⟩ := hw
  obtain ⟨hdec, hnx⟩ := fj_dc he rfl
  replace hnx : nx = pc + 1 := hnx
  subst hnx
  rcases st with _ | ⟨y | r, _ | ⟨x | r2, st⟩⟩
  all_goals try exact fj_nn hg
  have hg := fj_sj (a := (pc + 1, ls, (.inl (x + y) :: st : List fj_V), M)) hg
  subst hg
  refine lv_iadd hx hb hdec ?_
  exact kk H locs lsA ⟨hP, hD, hS⟩ hl ⟨hv.1, List.forall_mem_cons.mpr ⟨trivial, (List.forall_mem_cons.mp (List.forall_mem_cons.mp hv.2).2).2⟩⟩

theorem fj_g_isub  (Fx : fj_Fix X sc D ad cI cR A p R s m args c k cells slots) (he : fj_code k pc = some (.isub, nx, tg, sw)) (hg : fj_go X (.isub, nx, tg, sw) ls st M = some d) (hw : fj_Wd D ad cI cR A s M H locs) (hl : fj_has ad lsA (fj_nL k) ls) (hv : fj_vals sc ls st)
    (kk : ∀ (H' : Heap) (locs' : List Loc) (lsA' : Array Slot), fj_Wd D ad cI cR A s d.2.2.2 H' locs' → fj_has ad lsA' (fj_nL k) d.2.1 → fj_vals sc d.2.1 d.2.2.1 → W p l e R s m args below meth c H' locs' cells slots Q (F0 m d.1 lsA' (d.2.2.1.map (fj_vv ad)))) : W p l e R s m args below meth c H locs cells slots Q (F0 m pc lsA (st.map (fj_vv ad))) := by
  obtain ⟨hx, hb, hml, hown, hts, hK, hSt, hA, hsc, hR, hcs⟩ := Fx
  obtain ⟨hP, hD, hS⟩ := hw
  obtain ⟨hdec, hnx⟩ := fj_dc he rfl
  replace hnx : nx = pc + 1 := hnx
  subst hnx
  rcases st with _ | ⟨y | r, _ | ⟨x | r2, st⟩⟩
  all_goals try exact fj_nn hg
  have hg := fj_sj (a := (pc + 1, ls, (.inl (x - y) :: st : List fj_V), M)) hg
  subst hg
  refine lv_isub hx hb hdec ?_
  exact kk H locs lsA ⟨hP, hD, hS⟩ hl ⟨hv.1, List.forall_mem_cons.mpr ⟨trivial, (List.forall_mem_cons.mp (List.forall_mem_cons.mp hv.2).2).2⟩⟩

theorem fj_g_imul  (Fx : fj_Fix X sc D ad cI cR A p R s m args c k cells slots) (he : fj_code k pc = some (.imul, nx, tg, sw)) (hg : fj_go X (.imul, nx, tg, sw) ls st M = some d) (hw : fj_Wd D ad cI cR A s M H locs) (hl : fj_has ad lsA (fj_nL k) ls) (hv : fj_vals sc ls st)
    (kk : ∀ (H' : Heap) (locs' : List Loc) (lsA' : Array Slot), fj_Wd D ad cI cR A s d.2.2.2 H' locs' → fj_has ad lsA' (fj_nL k) d.2.1 → fj_vals sc d.2.1 d.2.2.1 → W p l e R s m args below meth c H' locs' cells slots Q (F0 m d.1 lsA' (d.2.2.1.map (fj_vv ad)))) : W p l e R s m args below meth c H locs cells slots Q (F0 m pc lsA (st.map (fj_vv ad))) := by
  obtain ⟨hx, hb, hml, hown, hts, hK, hSt, hA, hsc, hR, hcs⟩ := Fx
  obtain ⟨hP, hD, hS⟩ := hw
  obtain ⟨hdec, hnx⟩ := fj_dc he rfl
  replace hnx : nx = pc + 1 := hnx
  subst hnx
  rcases st with _ | ⟨y | r, _ | ⟨x | r2, st⟩⟩
  all_goals try exact fj_nn hg
  have hg := fj_sj (a := (pc + 1, ls, (.inl (x * y) :: st : List fj_V), M)) hg
  subst hg
  refine lv_imul hx hb hdec ?_
  exact kk H locs lsA ⟨hP, hD, hS⟩ hl ⟨hv.1, List.forall_mem_cons.mpr ⟨trivial, (List.forall_mem_cons.mp (List.forall_mem_cons.mp hv.2).2).2⟩⟩

theorem fj_g_iand  (Fx : fj_Fix X sc D ad cI cR A p R s m args c k cells slots) (he : fj_code k pc = some (.iand, nx, tg, sw)) (hg : fj_go X (.iand, nx, tg, sw) ls st M = some d) (hw : fj_Wd D ad cI cR A s M H locs) (hl : fj_has ad lsA (fj_nL k) ls) (hv : fj_vals sc ls st)
    (kk : ∀ (H' : Heap) (locs' : List Loc) (lsA' : Array Slot), fj_Wd D ad cI cR A s d.2.2.2 H' locs' → fj_has ad lsA' (fj_nL k) d.2.1 → fj_vals sc d.2.1 d.2.2.1 → W p l e R s m args below meth c H' locs' cells slots Q (F0 m d.1 lsA' (d.2.2.1.map (fj_vv ad)))) : W p l e R s m args below meth c H locs cells slots Q (F0 m pc lsA (st.map (fj_vv ad))) := by
  obtain ⟨hx, hb, hml, hown, hts, hK, hSt, hA, hsc, hR, hcs⟩ := Fx
  obtain ⟨hP, hD, hS⟩ := hw
  obtain ⟨hdec, hnx⟩ := fj_dc he rfl
  replace hnx : nx = pc + 1 := hnx
  subst hnx
  rcases st with _ | ⟨y | r, _ | ⟨x | r2, st⟩⟩
  all_goals try exact fj_nn hg
  have hg := fj_sj (a := (pc + 1, ls, (.inl (x &&& y) :: st : List fj_V), M)) hg
  subst hg
  refine lv_iand hx hb hdec ?_
  exact kk H locs lsA ⟨hP, hD, hS⟩ hl ⟨hv.1, List.forall_mem_cons.mpr ⟨trivial, (List.forall_mem_cons.mp (List.forall_mem_cons.mp hv.2).2).2⟩⟩

theorem fj_g_ior  (Fx : fj_Fix X sc D ad cI cR A p R s m args c k cells slots) (he : fj_code k pc = some (.ior, nx, tg, sw)) (hg : fj_go X (.ior, nx, tg, sw) ls st M = some d) (hw : fj_Wd D ad cI cR A s M H locs) (hl : fj_has ad lsA (fj_nL k) ls) (hv : fj_vals sc ls st)
    (kk : ∀ (H' : Heap) (locs' : List Loc) (lsA' : Array Slot), fj_Wd D ad cI cR A s d.2.2.2 H' locs' → fj_has ad lsA' (fj_nL k) d.2.1 → fj_vals sc d.2.1 d.2.2.1 → W p l e R s m args below meth c H' locs' cells slots Q (F0 m d.1 lsA' (d.2.2.1.map (fj_vv ad)))) : W p l e R s m args below meth c H locs cells slots Q (F0 m pc lsA (st.map (fj_vv ad))) := by
  obtain ⟨hx, hb, hml, hown, hts, hK, hSt, hA, hsc, hR, hcs⟩ := Fx
  obtain ⟨hP, hD, hS⟩ := hw
  obtain ⟨hdec, hnx⟩ := fj_dc he rfl
  replace hnx : nx = pc + 1 := hnx
  subst hnx
  rcases st with _ | ⟨y | r, _ | ⟨x | r2, st⟩⟩
  all_goals try exact fj_nn hg
  have hg := fj_sj (a := (pc + 1, ls, (.inl (x ||| y) :: st : List fj_V), M)) hg
  subst hg
  refine lv_ior hx hb hdec ?_
  exact kk H locs lsA ⟨hP, hD, hS⟩ hl ⟨hv.1, List.forall_mem_cons.mpr ⟨trivial, (List.forall_mem_cons.mp (List.forall_mem_cons.mp hv.2).2).2⟩⟩

theorem fj_g_ixor  (Fx : fj_Fix X sc D ad cI cR A p R s m args c k cells slots) (he : fj_code k pc = some (.ixor, nx, tg, sw)) (hg : fj_go X (.ixor, nx, tg, sw) ls st M = some d) (hw : fj_Wd D ad cI cR A s M H locs) (hl : fj_has ad lsA (fj_nL k) ls) (hv : fj_vals sc ls st)
    (kk : ∀ (H' : Heap) (locs' : List Loc) (lsA' : Array Slot), fj_Wd D ad cI cR A s d.2.2.2 H' locs' → fj_has ad lsA' (fj_nL k) d.2.1 → fj_vals sc d.2.1 d.2.2.1 → W p l e R s m args below meth c H' locs' cells slots Q (F0 m d.1 lsA' (d.2.2.1.map (fj_vv ad)))) : W p l e R s m args below meth c H locs cells slots Q (F0 m pc lsA (st.map (fj_vv ad))) := by
  obtain ⟨hx, hb, hml, hown, hts, hK, hSt, hA, hsc, hR, hcs⟩ := Fx
  obtain ⟨hP, hD, hS⟩ := hw
  obtain ⟨hdec, hnx⟩ := fj_dc he rfl
  replace hnx : nx = pc + 1 := hnx
  subst hnx
  rcases st with _ | ⟨y | r, _ | ⟨x | r2, st⟩⟩
  all_goals try exact fj_nn hg
  have hg := fj_sj (a := (pc + 1, ls, (.inl (x ^^^ y) :: st : List fj_V), M)) hg
  subst hg
  refine lv_ixor hx hb hdec ?_
  exact kk H locs lsA ⟨hP, hD, hS⟩ hl ⟨hv.1, List.forall_mem_cons.mpr ⟨trivial, (List.forall_mem_cons.mp (List.forall_mem_cons.mp hv.2).2).2⟩⟩

theorem fj_g_ishl  (Fx : fj_Fix X sc D ad cI cR A p R s m args c k cells slots) (he : fj_code k pc = some (.ishl, nx, tg, sw)) (hg : fj_go X (.ishl, nx, tg, sw) ls st M = some d) (hw : fj_Wd D ad cI cR A s M H locs) (hl : fj_has ad lsA (fj_nL k) ls) (hv : fj_vals sc ls st)
    (kk : ∀ (H' : Heap) (locs' : List Loc) (lsA' : Array Slot), fj_Wd D ad cI cR A s d.2.2.2 H' locs' → fj_has ad lsA' (fj_nL k) d.2.1 → fj_vals sc d.2.1 d.2.2.1 → W p l e R s m args below meth c H' locs' cells slots Q (F0 m d.1 lsA' (d.2.2.1.map (fj_vv ad)))) : W p l e R s m args below meth c H locs cells slots Q (F0 m pc lsA (st.map (fj_vv ad))) := by
  obtain ⟨hx, hb, hml, hown, hts, hK, hSt, hA, hsc, hR, hcs⟩ := Fx
  obtain ⟨hP, hD, hS⟩ := hw
  obtain ⟨hdec, hnx⟩ := fj_dc he rfl
  replace hnx : nx = pc + 1 := hnx
  subst hnx
  rcases st with _ | ⟨y | r, _ | ⟨x | r2, st⟩⟩
  all_goals try exact fj_nn hg
  have hg := fj_sj (a := (pc + 1, ls, (.inl (x <<< (y &&& 31)) :: st : List fj_V), M)) hg
  subst hg
  refine lv_ishl hx hb hdec ?_
  exact kk H locs lsA ⟨hP, hD, hS⟩ hl ⟨hv.1, List.forall_mem_cons.mpr ⟨trivial, (List.forall_mem_cons.mp (List.forall_mem_cons.mp hv.2).2).2⟩⟩

theorem fj_g_ishr  (Fx : fj_Fix X sc D ad cI cR A p R s m args c k cells slots) (he : fj_code k pc = some (.ishr, nx, tg, sw)) (hg : fj_go X (.ishr, nx, tg, sw) ls st M = some d) (hw : fj_Wd D ad cI cR A s M H locs) (hl : fj_has ad lsA (fj_nL k) ls) (hv : fj_vals sc ls st)
    (kk : ∀ (H' : Heap) (locs' : List Loc) (lsA' : Array Slot), fj_Wd D ad cI cR A s d.2.2.2 H' locs' → fj_has ad lsA' (fj_nL k) d.2.1 → fj_vals sc d.2.1 d.2.2.1 → W p l e R s m args below meth c H' locs' cells slots Q (F0 m d.1 lsA' (d.2.2.1.map (fj_vv ad)))) : W p l e R s m args below meth c H locs cells slots Q (F0 m pc lsA (st.map (fj_vv ad))) := by
  obtain ⟨hx, hb, hml, hown, hts, hK, hSt, hA, hsc, hR, hcs⟩ := Fx
  obtain ⟨hP, hD, hS⟩ := hw
  obtain ⟨hdec, hnx⟩ := fj_dc he rfl
  replace hnx : nx = pc + 1 := hnx
  subst hnx
  rcases st with _ | ⟨y | r, _ | ⟨x | r2, st⟩⟩
  all_goals try exact fj_nn hg
  have hg := fj_sj (a := (pc + 1, ls, (.inl (x >>> (y &&& 31)) :: st : List fj_V), M)) hg
  subst hg
  refine lv_ishr hx hb hdec ?_
  exact kk H locs lsA ⟨hP, hD, hS⟩ hl ⟨hv.1, List.forall_mem_cons.mpr ⟨trivial, (List.forall_mem_cons.mp (List.forall_mem_cons.mp hv.2).2).2⟩⟩

theorem fj_g_idiv  (Fx : fj_Fix X sc D ad cI cR A p R s m args c k cells slots) (he : fj_code k pc = some (.idiv, nx, tg, sw)) (hg : fj_go X (.idiv, nx, tg, sw) ls st M = some d) (hw : fj_Wd D ad cI cR A s M H locs) (hl : fj_has ad lsA (fj_nL k) ls) (hv : fj_vals sc ls st)
    (kk : ∀ (H' : Heap) (locs' : List Loc) (lsA' : Array Slot), fj_Wd D ad cI cR A s d.2.2.2 H' locs' → fj_has ad lsA' (fj_nL k) d.2.1 → fj_vals sc d.2.1 d.2.2.1 → W p l e R s m args below meth c H' locs' cells slots Q (F0 m d.1 lsA' (d.2.2.1.map (fj_vv ad)))) : W p l e R s m args below meth c H locs cells slots Q (F0 m pc lsA (st.map (fj_vv ad))) := by
  obtain ⟨hx, hb, hml, hown, hts, hK, hSt, hA, hsc, hR, hcs⟩ := Fx
  obtain ⟨hP, hD, hS⟩ := hw
  obtain ⟨hdec, hnx⟩ := fj_dc he rfl
  replace hnx : nx = pc + 1 := hnx
  subst hnx
  rcases st with _ | ⟨y | r, _ | ⟨x | r2, st⟩⟩
  all_goals try exact fj_nn hg
  by_cases hy : y = 0
  · have hg : (if y = 0 then none else some (pc + 1, ls, (.inl (x / y) :: st : List fj_V), M)) = some d := hg
    rw [if_pos hy] at hg
    cases hg
  have hg : (if y = 0 then none else some (pc + 1, ls, (.inl (x / y) :: st : List fj_V), M)) = some d := hg
  rw [if_neg hy] at hg
  have hg := fj_sj hg
  subst hg
  refine lv_idiv hx hb hdec hy ?_
  exact kk H locs lsA ⟨hP, hD, hS⟩ hl ⟨hv.1, List.forall_mem_cons.mpr ⟨trivial, (List.forall_mem_cons.mp (List.forall_mem_cons.mp hv.2).2).2⟩⟩

theorem fj_g_irem  (Fx : fj_Fix X sc D ad cI cR A p R s m args c k cells slots) (he : fj_code k pc = some (.irem, nx, tg, sw)) (hg : fj_go X (.irem, nx, tg, sw) ls st M = some d) (hw : fj_Wd D ad cI cR A s M H locs) (hl : fj_has ad lsA (fj_nL k) ls) (hv : fj_vals sc ls st)
    (kk : ∀ (H' : Heap) (locs' : List Loc) (lsA' : Array Slot), fj_Wd D ad cI cR A s d.2.2.2 H' locs' → fj_has ad lsA' (fj_nL k) d.2.1 → fj_vals sc d.2.1 d.2.2.1 → W p l e R s m args below meth c H' locs' cells slots Q (F0 m d.1 lsA' (d.2.2.1.map (fj_vv ad)))) : W p l e R s m args below meth c H locs cells slots Q (F0 m pc lsA (st.map (fj_vv ad))) := by
  obtain ⟨hx, hb, hml, hown, hts, hK, hSt, hA, hsc, hR, hcs⟩ := Fx
  obtain ⟨hP, hD, hS⟩ := hw
  obtain ⟨hdec, hnx⟩ := fj_dc he rfl
  replace hnx : nx = pc + 1 := hnx
  subst hnx
  rcases st with _ | ⟨y | r, _ | ⟨x | r2, st⟩⟩
  all_goals try exact fj_nn hg
  by_cases hy : y = 0
  · have hg : (if y = 0 then none else some (pc + 1, ls, (.inl (x - x / y * y) :: st : List fj_V), M)) = some d := hg
    rw [if_pos hy] at hg
    cases hg
  have hg : (if y = 0 then none else some (pc + 1, ls, (.inl (x - x / y * y) :: st : List fj_V), M)) = some d := hg
  rw [if_neg hy] at hg
  have hg := fj_sj hg
  subst hg
  refine lv_irem hx hb hdec hy ?_
  exact kk H locs lsA ⟨hP, hD, hS⟩ hl ⟨hv.1, List.forall_mem_cons.mpr ⟨trivial, (List.forall_mem_cons.mp (List.forall_mem_cons.mp hv.2).2).2⟩⟩

theorem fj_g_ineg  (Fx : fj_Fix X sc D ad cI cR A p R s m args c k cells slots) (he : fj_code k pc = some (.ineg, nx, tg, sw)) (hg : fj_go X (.ineg, nx, tg, sw) ls st M = some d) (hw : fj_Wd D ad cI cR A s M H locs) (hl : fj_has ad lsA (fj_nL k) ls) (hv : fj_vals sc ls st)
    (kk : ∀ (H' : Heap) (locs' : List Loc) (lsA' : Array Slot), fj_Wd D ad cI cR A s d.2.2.2 H' locs' → fj_has ad lsA' (fj_nL k) d.2.1 → fj_vals sc d.2.1 d.2.2.1 → W p l e R s m args below meth c H' locs' cells slots Q (F0 m d.1 lsA' (d.2.2.1.map (fj_vv ad)))) : W p l e R s m args below meth c H locs cells slots Q (F0 m pc lsA (st.map (fj_vv ad))) := by
  obtain ⟨hx, hb, hml, hown, hts, hK, hSt, hA, hsc, hR, hcs⟩ := Fx
  obtain ⟨hP, hD, hS⟩ := hw
  obtain ⟨hdec, hnx⟩ := fj_dc he rfl
  replace hnx : nx = pc + 1 := hnx
  subst hnx
  rcases st with _ | ⟨x | r, st⟩
  all_goals try exact fj_nn hg
  have hg := fj_sj (a := (pc + 1, ls, (.inl (-x) :: st : List fj_V), M)) hg
  subst hg
  refine lv_ineg hx hb hdec ?_
  exact kk H locs lsA ⟨hP, hD, hS⟩ hl ⟨hv.1, List.forall_mem_cons.mpr ⟨trivial, (List.forall_mem_cons.mp hv.2).2⟩⟩

theorem fj_g_iconst {n : Int} (Fx : fj_Fix X sc D ad cI cR A p R s m args c k cells slots) (he : fj_code k pc = some (.iconst n, nx, tg, sw)) (hg : fj_go X (.iconst n, nx, tg, sw) ls st M = some d) (hw : fj_Wd D ad cI cR A s M H locs) (hl : fj_has ad lsA (fj_nL k) ls) (hv : fj_vals sc ls st)
    (kk : ∀ (H' : Heap) (locs' : List Loc) (lsA' : Array Slot), fj_Wd D ad cI cR A s d.2.2.2 H' locs' → fj_has ad lsA' (fj_nL k) d.2.1 → fj_vals sc d.2.1 d.2.2.1 → W p l e R s m args below meth c H' locs' cells slots Q (F0 m d.1 lsA' (d.2.2.1.map (fj_vv ad)))) : W p l e R s m args below meth c H locs cells slots Q (F0 m pc lsA (st.map (fj_vv ad))) := by
  obtain ⟨hx, hb, hml, hown, hts, hK, hSt, hA, hsc, hR, hcs⟩ := Fx
  obtain ⟨hP, hD, hS⟩ := hw
  obtain ⟨hdec, hnx⟩ := fj_dc he rfl
  replace hnx : nx = pc + 1 := hnx
  subst hnx
  have hg := fj_sj (a := (pc + 1, ls, (.inl (Int32.ofInt n) :: st : List fj_V), M)) hg
  subst hg
  refine lv_iconst hx hb hdec rfl ?_
  exact kk H locs lsA ⟨hP, hD, hS⟩ hl ⟨hv.1, List.forall_mem_cons.mpr ⟨trivial, hv.2⟩⟩

theorem fj_g_bipush {n : Int} (Fx : fj_Fix X sc D ad cI cR A p R s m args c k cells slots) (he : fj_code k pc = some (.bipush n, nx, tg, sw)) (hg : fj_go X (.bipush n, nx, tg, sw) ls st M = some d) (hw : fj_Wd D ad cI cR A s M H locs) (hl : fj_has ad lsA (fj_nL k) ls) (hv : fj_vals sc ls st)
    (kk : ∀ (H' : Heap) (locs' : List Loc) (lsA' : Array Slot), fj_Wd D ad cI cR A s d.2.2.2 H' locs' → fj_has ad lsA' (fj_nL k) d.2.1 → fj_vals sc d.2.1 d.2.2.1 → W p l e R s m args below meth c H' locs' cells slots Q (F0 m d.1 lsA' (d.2.2.1.map (fj_vv ad)))) : W p l e R s m args below meth c H locs cells slots Q (F0 m pc lsA (st.map (fj_vv ad))) := by
  obtain ⟨hx, hb, hml, hown, hts, hK, hSt, hA, hsc, hR, hcs⟩ := Fx
  obtain ⟨hP, hD, hS⟩ := hw
  obtain ⟨hdec, hnx⟩ := fj_dc he rfl
  replace hnx : nx = pc + 2 := hnx
  subst hnx
  have hg := fj_sj (a := (pc + 2, ls, (.inl ((Int8.ofInt n).toInt32) :: st : List fj_V), M)) hg
  subst hg
  refine lv_bipush hx hb hdec rfl ?_
  exact kk H locs lsA ⟨hP, hD, hS⟩ hl ⟨hv.1, List.forall_mem_cons.mpr ⟨trivial, hv.2⟩⟩

theorem fj_g_sipush {n : Int} (Fx : fj_Fix X sc D ad cI cR A p R s m args c k cells slots) (he : fj_code k pc = some (.sipush n, nx, tg, sw)) (hg : fj_go X (.sipush n, nx, tg, sw) ls st M = some d) (hw : fj_Wd D ad cI cR A s M H locs) (hl : fj_has ad lsA (fj_nL k) ls) (hv : fj_vals sc ls st)
    (kk : ∀ (H' : Heap) (locs' : List Loc) (lsA' : Array Slot), fj_Wd D ad cI cR A s d.2.2.2 H' locs' → fj_has ad lsA' (fj_nL k) d.2.1 → fj_vals sc d.2.1 d.2.2.1 → W p l e R s m args below meth c H' locs' cells slots Q (F0 m d.1 lsA' (d.2.2.1.map (fj_vv ad)))) : W p l e R s m args below meth c H locs cells slots Q (F0 m pc lsA (st.map (fj_vv ad))) := by
  obtain ⟨hx, hb, hml, hown, hts, hK, hSt, hA, hsc, hR, hcs⟩ := Fx
  obtain ⟨hP, hD, hS⟩ := hw
  obtain ⟨hdec, hnx⟩ := fj_dc he rfl
  replace hnx : nx = pc + 3 := hnx
  subst hnx
  have hg := fj_sj (a := (pc + 3, ls, (.inl ((Int16.ofInt n).toInt32) :: st : List fj_V), M)) hg
  subst hg
  refine lv_sipush hx hb hdec rfl ?_
  exact kk H locs lsA ⟨hP, hD, hS⟩ hl ⟨hv.1, List.forall_mem_cons.mpr ⟨trivial, hv.2⟩⟩

theorem fj_g_ldc {i : Nat} (Fx : fj_Fix X sc D ad cI cR A p R s m args c k cells slots) (he : fj_code k pc = some (.ldc i, nx, tg, sw)) (hg : fj_go X (.ldc i, nx, tg, sw) ls st M = some d) (hw : fj_Wd D ad cI cR A s M H locs) (hl : fj_has ad lsA (fj_nL k) ls) (hv : fj_vals sc ls st)
    (kk : ∀ (H' : Heap) (locs' : List Loc) (lsA' : Array Slot), fj_Wd D ad cI cR A s d.2.2.2 H' locs' → fj_has ad lsA' (fj_nL k) d.2.1 → fj_vals sc d.2.1 d.2.2.1 → W p l e R s m args below meth c H' locs' cells slots Q (F0 m d.1 lsA' (d.2.2.1.map (fj_vv ad)))) : W p l e R s m args below meth c H locs cells slots Q (F0 m pc lsA (st.map (fj_vv ad))) := by
  obtain ⟨hx, hb, hml, hown, hts, hK, hSt, hA, hsc, hR, hcs⟩ := Fx
  obtain ⟨hP, hD, hS⟩ := hw
  obtain ⟨hdec, hnx⟩ := fj_dc he rfl
  replace hnx : nx = pc + 2 := hnx
  subst hnx
  have hok := fj_dx he
  simp only [fj_okx, Bool.and_eq_true, decide_eq_true_eq] at hok
  obtain ⟨hi, hk0⟩ := hok
  obtain ⟨v, hk, hsw⟩ := Option.map_eq_some_iff.mp hk0
  have hsw : [(v, 0)] = sw := hsw
  subst hsw
  have hg := fj_sj (a := (pc + 2, ls, (.inl v :: st : List fj_V), M)) hg
  subst hg
  have hq := fj_con_ok _ (fj_lk_mem hk)
  simp only [(fj_div (o := fj_ow k) hi).1, (fj_div (o := fj_ow k) hi).2] at hq
  refine lv_ldc hx hb hown (hts _ hq) hdec ?_
  exact kk H locs lsA ⟨hP, hD, hS⟩ hl ⟨hv.1, List.forall_mem_cons.mpr ⟨trivial, hv.2⟩⟩

theorem fj_g_ldc_w {i : Nat} (Fx : fj_Fix X sc D ad cI cR A p R s m args c k cells slots) (he : fj_code k pc = some (.ldc_w i, nx, tg, sw)) (hg : fj_go X (.ldc_w i, nx, tg, sw) ls st M = some d) (hw : fj_Wd D ad cI cR A s M H locs) (hl : fj_has ad lsA (fj_nL k) ls) (hv : fj_vals sc ls st)
    (kk : ∀ (H' : Heap) (locs' : List Loc) (lsA' : Array Slot), fj_Wd D ad cI cR A s d.2.2.2 H' locs' → fj_has ad lsA' (fj_nL k) d.2.1 → fj_vals sc d.2.1 d.2.2.1 → W p l e R s m args below meth c H' locs' cells slots Q (F0 m d.1 lsA' (d.2.2.1.map (fj_vv ad)))) : W p l e R s m args below meth c H locs cells slots Q (F0 m pc lsA (st.map (fj_vv ad))) := by
  obtain ⟨hx, hb, hml, hown, hts, hK, hSt, hA, hsc, hR, hcs⟩ := Fx
  obtain ⟨hP, hD, hS⟩ := hw
  obtain ⟨hdec, hnx⟩ := fj_dc he rfl
  replace hnx : nx = pc + 3 := hnx
  subst hnx
  have hok := fj_dx he
  simp only [fj_okx, Bool.and_eq_true, decide_eq_true_eq] at hok
  obtain ⟨hi, hk0⟩ := hok
  obtain ⟨v, hk, hsw⟩ := Option.map_eq_some_iff.mp hk0
  have hsw : [(v, 0)] = sw := hsw
  subst hsw
  have hg := fj_sj (a := (pc + 3, ls, (.inl v :: st : List fj_V), M)) hg
  subst hg
  have hq := fj_con_ok _ (fj_lk_mem hk)
  simp only [(fj_div (o := fj_ow k) hi).1, (fj_div (o := fj_ow k) hi).2] at hq
  refine lv_ldcw hx hb hown (hts _ hq) hdec ?_
  exact kk H locs lsA ⟨hP, hD, hS⟩ hl ⟨hv.1, List.forall_mem_cons.mpr ⟨trivial, hv.2⟩⟩

theorem fj_g_iload_n {i : Fin 4} (Fx : fj_Fix X sc D ad cI cR A p R s m args c k cells slots) (he : fj_code k pc = some (.iload_n i, nx, tg, sw)) (hg : fj_go X (.iload_n i, nx, tg, sw) ls st M = some d) (hw : fj_Wd D ad cI cR A s M H locs) (hl : fj_has ad lsA (fj_nL k) ls) (hv : fj_vals sc ls st)
    (kk : ∀ (H' : Heap) (locs' : List Loc) (lsA' : Array Slot), fj_Wd D ad cI cR A s d.2.2.2 H' locs' → fj_has ad lsA' (fj_nL k) d.2.1 → fj_vals sc d.2.1 d.2.2.1 → W p l e R s m args below meth c H' locs' cells slots Q (F0 m d.1 lsA' (d.2.2.1.map (fj_vv ad)))) : W p l e R s m args below meth c H locs cells slots Q (F0 m pc lsA (st.map (fj_vv ad))) := by
  obtain ⟨hx, hb, hml, hown, hts, hK, hSt, hA, hsc, hR, hcs⟩ := Fx
  obtain ⟨hP, hD, hS⟩ := hw
  obtain ⟨hdec, hnx⟩ := fj_dc he rfl
  replace hnx : nx = pc + 1 := hnx
  subst hnx
  have hg : (match ls[(i : Nat)]? with | some (some (.inl x)) => some (pc + 1, ls, (.inl x :: st : List fj_V), M) | _ => none) = some d := hg
  cases hc : ls[(i : Nat)]? with
  | none => rw [hc] at hg; cases hg
  | some w =>
    rw [hc] at hg
    rcases w with _ | x | x
    all_goals try exact fj_nn hg
    have hg := fj_sj hg
    subst hg
    refine lv_iload_n hx hb hdec rfl (hl.2.2.2 _ _ hc) ?_
    exact kk H locs lsA ⟨hP, hD, hS⟩ hl ⟨hv.1, List.forall_mem_cons.mpr ⟨hv.1 _ _ hc, hv.2⟩⟩

theorem fj_g_iload {i : Nat} (Fx : fj_Fix X sc D ad cI cR A p R s m args c k cells slots) (he : fj_code k pc = some (.iload i, nx, tg, sw)) (hg : fj_go X (.iload i, nx, tg, sw) ls st M = some d) (hw : fj_Wd D ad cI cR A s M H locs) (hl : fj_has ad lsA (fj_nL k) ls) (hv : fj_vals sc ls st)
    (kk : ∀ (H' : Heap) (locs' : List Loc) (lsA' : Array Slot), fj_Wd D ad cI cR A s d.2.2.2 H' locs' → fj_has ad lsA' (fj_nL k) d.2.1 → fj_vals sc d.2.1 d.2.2.1 → W p l e R s m args below meth c H' locs' cells slots Q (F0 m d.1 lsA' (d.2.2.1.map (fj_vv ad)))) : W p l e R s m args below meth c H locs cells slots Q (F0 m pc lsA (st.map (fj_vv ad))) := by
  obtain ⟨hx, hb, hml, hown, hts, hK, hSt, hA, hsc, hR, hcs⟩ := Fx
  obtain ⟨hP, hD, hS⟩ := hw
  obtain ⟨hdec, hnx⟩ := fj_dc he rfl
  replace hnx : nx = pc + 2 := hnx
  subst hnx
  have hg : (match ls[i]? with | some (some (.inl x)) => some (pc + 2, ls, (.inl x :: st : List fj_V), M) | _ => none) = some d := hg
  cases hc : ls[i]? with
  | none => rw [hc] at hg; cases hg
  | some w =>
    rw [hc] at hg
    rcases w with _ | x | x
    all_goals try exact fj_nn hg
    have hg := fj_sj hg
    subst hg
    refine lv_iload hx hb hdec (hl.2.2.2 _ _ hc) ?_
    exact kk H locs lsA ⟨hP, hD, hS⟩ hl ⟨hv.1, List.forall_mem_cons.mpr ⟨hv.1 _ _ hc, hv.2⟩⟩

theorem fj_g_aload_n {i : Fin 4} (Fx : fj_Fix X sc D ad cI cR A p R s m args c k cells slots) (he : fj_code k pc = some (.aload_n i, nx, tg, sw)) (hg : fj_go X (.aload_n i, nx, tg, sw) ls st M = some d) (hw : fj_Wd D ad cI cR A s M H locs) (hl : fj_has ad lsA (fj_nL k) ls) (hv : fj_vals sc ls st)
    (kk : ∀ (H' : Heap) (locs' : List Loc) (lsA' : Array Slot), fj_Wd D ad cI cR A s d.2.2.2 H' locs' → fj_has ad lsA' (fj_nL k) d.2.1 → fj_vals sc d.2.1 d.2.2.1 → W p l e R s m args below meth c H' locs' cells slots Q (F0 m d.1 lsA' (d.2.2.1.map (fj_vv ad)))) : W p l e R s m args below meth c H locs cells slots Q (F0 m pc lsA (st.map (fj_vv ad))) := by
  obtain ⟨hx, hb, hml, hown, hts, hK, hSt, hA, hsc, hR, hcs⟩ := Fx
  obtain ⟨hP, hD, hS⟩ := hw
  obtain ⟨hdec, hnx⟩ := fj_dc he rfl
  replace hnx : nx = pc + 1 := hnx
  subst hnx
  have hg : (match ls[(i : Nat)]? with | some (some (.inr x)) => some (pc + 1, ls, (.inr x :: st : List fj_V), M) | _ => none) = some d := hg
  cases hc : ls[(i : Nat)]? with
  | none => rw [hc] at hg; cases hg
  | some w =>
    rw [hc] at hg
    rcases w with _ | x | x
    all_goals try exact fj_nn hg
    have hg := fj_sj hg
    subst hg
    refine lv_aload_n hx hb hdec rfl (hl.2.2.2 _ _ hc) ?_
    exact kk H locs lsA ⟨hP, hD, hS⟩ hl ⟨hv.1, List.forall_mem_cons.mpr ⟨hv.1 _ _ hc, hv.2⟩⟩

theorem fj_g_istore_n {i : Fin 4} (Fx : fj_Fix X sc D ad cI cR A p R s m args c k cells slots) (he : fj_code k pc = some (.istore_n i, nx, tg, sw)) (hg : fj_go X (.istore_n i, nx, tg, sw) ls st M = some d) (hw : fj_Wd D ad cI cR A s M H locs) (hl : fj_has ad lsA (fj_nL k) ls) (hv : fj_vals sc ls st)
    (kk : ∀ (H' : Heap) (locs' : List Loc) (lsA' : Array Slot), fj_Wd D ad cI cR A s d.2.2.2 H' locs' → fj_has ad lsA' (fj_nL k) d.2.1 → fj_vals sc d.2.1 d.2.2.1 → W p l e R s m args below meth c H' locs' cells slots Q (F0 m d.1 lsA' (d.2.2.1.map (fj_vv ad)))) : W p l e R s m args below meth c H locs cells slots Q (F0 m pc lsA (st.map (fj_vv ad))) := by
  obtain ⟨hx, hb, hml, hown, hts, hK, hSt, hA, hsc, hR, hcs⟩ := Fx
  obtain ⟨hP, hD, hS⟩ := hw
  obtain ⟨hdec, hnx⟩ := fj_dc he rfl
  replace hnx : nx = pc + 1 := hnx
  subst hnx
  have hi : (i : Nat) < fj_nL k := of_decide_eq_true (fj_dx he)
  rcases st with _ | ⟨x | x, st⟩
  all_goals try exact fj_nn hg
  have hg := fj_sj (a := (pc + 1, ls.set (i : Nat) (some (.inl x)), st, M)) hg
  subst hg
  refine lv_istore_n hx hb hdec rfl hl.lv hi rfl (fun lsB hB => ?_)
  exact kk H locs lsB ⟨hP, hD, hS⟩ (hl.set (v := .inl x) hB) (hv.set (List.forall_mem_cons.mp hv.2).1 (List.forall_mem_cons.mp hv.2).2)

theorem fj_g_istore {i : Nat} (Fx : fj_Fix X sc D ad cI cR A p R s m args c k cells slots) (he : fj_code k pc = some (.istore i, nx, tg, sw)) (hg : fj_go X (.istore i, nx, tg, sw) ls st M = some d) (hw : fj_Wd D ad cI cR A s M H locs) (hl : fj_has ad lsA (fj_nL k) ls) (hv : fj_vals sc ls st)
    (kk : ∀ (H' : Heap) (locs' : List Loc) (lsA' : Array Slot), fj_Wd D ad cI cR A s d.2.2.2 H' locs' → fj_has ad lsA' (fj_nL k) d.2.1 → fj_vals sc d.2.1 d.2.2.1 → W p l e R s m args below meth c H' locs' cells slots Q (F0 m d.1 lsA' (d.2.2.1.map (fj_vv ad)))) : W p l e R s m args below meth c H locs cells slots Q (F0 m pc lsA (st.map (fj_vv ad))) := by
  obtain ⟨hx, hb, hml, hown, hts, hK, hSt, hA, hsc, hR, hcs⟩ := Fx
  obtain ⟨hP, hD, hS⟩ := hw
  obtain ⟨hdec, hnx⟩ := fj_dc he rfl
  replace hnx : nx = pc + 2 := hnx
  subst hnx
  have hi : i < fj_nL k := of_decide_eq_true (fj_dx he)
  rcases st with _ | ⟨x | x, st⟩
  all_goals try exact fj_nn hg
  have hg := fj_sj (a := (pc + 2, ls.set i (some (.inl x)), st, M)) hg
  subst hg
  refine lv_istore hx hb hdec hl.lv hi rfl (fun lsB hB => ?_)
  exact kk H locs lsB ⟨hP, hD, hS⟩ (hl.set (v := .inl x) hB) (hv.set (List.forall_mem_cons.mp hv.2).1 (List.forall_mem_cons.mp hv.2).2)

theorem fj_g_astore_n {i : Fin 4} (Fx : fj_Fix X sc D ad cI cR A p R s m args c k cells slots) (he : fj_code k pc = some (.astore_n i, nx, tg, sw)) (hg : fj_go X (.astore_n i, nx, tg, sw) ls st M = some d) (hw : fj_Wd D ad cI cR A s M H locs) (hl : fj_has ad lsA (fj_nL k) ls) (hv : fj_vals sc ls st)
    (kk : ∀ (H' : Heap) (locs' : List Loc) (lsA' : Array Slot), fj_Wd D ad cI cR A s d.2.2.2 H' locs' → fj_has ad lsA' (fj_nL k) d.2.1 → fj_vals sc d.2.1 d.2.2.1 → W p l e R s m args below meth c H' locs' cells slots Q (F0 m d.1 lsA' (d.2.2.1.map (fj_vv ad)))) : W p l e R s m args below meth c H locs cells slots Q (F0 m pc lsA (st.map (fj_vv ad))) := by
  obtain ⟨hx, hb, hml, hown, hts, hK, hSt, hA, hsc, hR, hcs⟩ := Fx
  obtain ⟨hP, hD, hS⟩ := hw
  obtain ⟨hdec, hnx⟩ := fj_dc he rfl
  replace hnx : nx = pc + 1 := hnx
  subst hnx
  have hi : (i : Nat) < fj_nL k := of_decide_eq_true (fj_dx he)
  rcases st with _ | ⟨x | x, st⟩
  all_goals try exact fj_nn hg
  have hg := fj_sj (a := (pc + 1, ls.set (i : Nat) (some (.inr x)), st, M)) hg
  subst hg
  refine lv_astore_n hx hb hdec rfl hl.lv hi rfl (fun lsB hB => ?_)
  exact kk H locs lsB ⟨hP, hD, hS⟩ (hl.set (v := .inr x) hB) (hv.set (List.forall_mem_cons.mp hv.2).1 (List.forall_mem_cons.mp hv.2).2)

theorem fj_g_iinc {i : Nat} {n : Int} (Fx : fj_Fix X sc D ad cI cR A p R s m args c k cells slots) (he : fj_code k pc = some (.iinc i n, nx, tg, sw)) (hg : fj_go X (.iinc i n, nx, tg, sw) ls st M = some d) (hw : fj_Wd D ad cI cR A s M H locs) (hl : fj_has ad lsA (fj_nL k) ls) (hv : fj_vals sc ls st)
    (kk : ∀ (H' : Heap) (locs' : List Loc) (lsA' : Array Slot), fj_Wd D ad cI cR A s d.2.2.2 H' locs' → fj_has ad lsA' (fj_nL k) d.2.1 → fj_vals sc d.2.1 d.2.2.1 → W p l e R s m args below meth c H' locs' cells slots Q (F0 m d.1 lsA' (d.2.2.1.map (fj_vv ad)))) : W p l e R s m args below meth c H locs cells slots Q (F0 m pc lsA (st.map (fj_vv ad))) := by
  obtain ⟨hx, hb, hml, hown, hts, hK, hSt, hA, hsc, hR, hcs⟩ := Fx
  obtain ⟨hP, hD, hS⟩ := hw
  obtain ⟨hdec, hnx⟩ := fj_dc he rfl
  replace hnx : nx = pc + 3 := hnx
  subst hnx
  have hi : i < fj_nL k := of_decide_eq_true (fj_dx he)
  have hg : (match ls[i]? with | some (some (.inl x)) => some (pc + 3, ls.set i (some (.inl (x + Int32.ofInt n))), st, M) | _ => none) = some d := hg
  cases hc : ls[i]? with
  | none => rw [hc] at hg; cases hg
  | some w =>
    rw [hc] at hg
    rcases w with _ | x | x
    all_goals try exact fj_nn hg
    have hg := fj_sj hg
    subst hg
    obtain ⟨q, hq⟩ := List.getElem?_of_mem (fj_prs_mem (ad := ad) (ls := ls) (q := (i, .int x)).mpr ⟨.inl x, hc, rfl⟩)
    refine lv_iinc hx hb hdec hl.lv hq rfl hi rfl (fun lsB hB => ?_)
    exact kk H locs lsB ⟨hP, hD, hS⟩ (hl.set (v := .inl (x + Int32.ofInt n)) hB) (hv.set trivial hv.2)

theorem fj_g_dup  (Fx : fj_Fix X sc D ad cI cR A p R s m args c k cells slots) (he : fj_code k pc = some (.dup, nx, tg, sw)) (hg : fj_go X (.dup, nx, tg, sw) ls st M = some d) (hw : fj_Wd D ad cI cR A s M H locs) (hl : fj_has ad lsA (fj_nL k) ls) (hv : fj_vals sc ls st)
    (kk : ∀ (H' : Heap) (locs' : List Loc) (lsA' : Array Slot), fj_Wd D ad cI cR A s d.2.2.2 H' locs' → fj_has ad lsA' (fj_nL k) d.2.1 → fj_vals sc d.2.1 d.2.2.1 → W p l e R s m args below meth c H' locs' cells slots Q (F0 m d.1 lsA' (d.2.2.1.map (fj_vv ad)))) : W p l e R s m args below meth c H locs cells slots Q (F0 m pc lsA (st.map (fj_vv ad))) := by
  obtain ⟨hx, hb, hml, hown, hts, hK, hSt, hA, hsc, hR, hcs⟩ := Fx
  obtain ⟨hP, hD, hS⟩ := hw
  obtain ⟨hdec, hnx⟩ := fj_dc he rfl
  replace hnx : nx = pc + 1 := hnx
  subst hnx
  rcases st with _ | ⟨x, st⟩
  all_goals try exact fj_nn hg
  have hg := fj_sj (a := (pc + 1, ls, x :: x :: st, M)) hg
  subst hg
  refine lv_dup hx hb hdec (fj_vv_cat ad x) ?_
  exact kk H locs lsA ⟨hP, hD, hS⟩ hl ⟨hv.1, List.forall_mem_cons.mpr ⟨(List.forall_mem_cons.mp hv.2).1, hv.2⟩⟩

theorem fj_g_pop  (Fx : fj_Fix X sc D ad cI cR A p R s m args c k cells slots) (he : fj_code k pc = some (.pop, nx, tg, sw)) (hg : fj_go X (.pop, nx, tg, sw) ls st M = some d) (hw : fj_Wd D ad cI cR A s M H locs) (hl : fj_has ad lsA (fj_nL k) ls) (hv : fj_vals sc ls st)
    (kk : ∀ (H' : Heap) (locs' : List Loc) (lsA' : Array Slot), fj_Wd D ad cI cR A s d.2.2.2 H' locs' → fj_has ad lsA' (fj_nL k) d.2.1 → fj_vals sc d.2.1 d.2.2.1 → W p l e R s m args below meth c H' locs' cells slots Q (F0 m d.1 lsA' (d.2.2.1.map (fj_vv ad)))) : W p l e R s m args below meth c H locs cells slots Q (F0 m pc lsA (st.map (fj_vv ad))) := by
  obtain ⟨hx, hb, hml, hown, hts, hK, hSt, hA, hsc, hR, hcs⟩ := Fx
  obtain ⟨hP, hD, hS⟩ := hw
  obtain ⟨hdec, hnx⟩ := fj_dc he rfl
  replace hnx : nx = pc + 1 := hnx
  subst hnx
  rcases st with _ | ⟨x, st⟩
  all_goals try exact fj_nn hg
  have hg := fj_sj (a := (pc + 1, ls, st, M)) hg
  subst hg
  refine lv_pop hx hb hdec (fj_vv_cat ad x) ?_
  exact kk H locs lsA ⟨hP, hD, hS⟩ hl ⟨hv.1, (List.forall_mem_cons.mp hv.2).2⟩

theorem fj_g_dup2  (Fx : fj_Fix X sc D ad cI cR A p R s m args c k cells slots) (he : fj_code k pc = some (.dup2, nx, tg, sw)) (hg : fj_go X (.dup2, nx, tg, sw) ls st M = some d) (hw : fj_Wd D ad cI cR A s M H locs) (hl : fj_has ad lsA (fj_nL k) ls) (hv : fj_vals sc ls st)
    (kk : ∀ (H' : Heap) (locs' : List Loc) (lsA' : Array Slot), fj_Wd D ad cI cR A s d.2.2.2 H' locs' → fj_has ad lsA' (fj_nL k) d.2.1 → fj_vals sc d.2.1 d.2.2.1 → W p l e R s m args below meth c H' locs' cells slots Q (F0 m d.1 lsA' (d.2.2.1.map (fj_vv ad)))) : W p l e R s m args below meth c H locs cells slots Q (F0 m pc lsA (st.map (fj_vv ad))) := by
  obtain ⟨hx, hb, hml, hown, hts, hK, hSt, hA, hsc, hR, hcs⟩ := Fx
  obtain ⟨hP, hD, hS⟩ := hw
  obtain ⟨hdec, hnx⟩ := fj_dc he rfl
  replace hnx : nx = pc + 1 := hnx
  subst hnx
  rcases st with _ | ⟨x, _ | ⟨y, st⟩⟩
  all_goals try exact fj_nn hg
  have hg := fj_sj (a := (pc + 1, ls, x :: y :: x :: y :: st, M)) hg
  subst hg
  refine lv_dup2_11 hx hb hdec (fj_vv_cat ad x) (fj_vv_cat ad y) ?_
  exact kk H locs lsA ⟨hP, hD, hS⟩ hl ⟨hv.1, List.forall_mem_cons.mpr ⟨(List.forall_mem_cons.mp hv.2).1, List.forall_mem_cons.mpr ⟨(List.forall_mem_cons.mp (List.forall_mem_cons.mp hv.2).2).1, hv.2⟩⟩⟩

theorem fj_g_dup_x1  (Fx : fj_Fix X sc D ad cI cR A p R s m args c k cells slots) (he : fj_code k pc = some (.dup_x1, nx, tg, sw)) (hg : fj_go X (.dup_x1, nx, tg, sw) ls st M = some d) (hw : fj_Wd D ad cI cR A s M H locs) (hl : fj_has ad lsA (fj_nL k) ls) (hv : fj_vals sc ls st)
    (kk : ∀ (H' : Heap) (locs' : List Loc) (lsA' : Array Slot), fj_Wd D ad cI cR A s d.2.2.2 H' locs' → fj_has ad lsA' (fj_nL k) d.2.1 → fj_vals sc d.2.1 d.2.2.1 → W p l e R s m args below meth c H' locs' cells slots Q (F0 m d.1 lsA' (d.2.2.1.map (fj_vv ad)))) : W p l e R s m args below meth c H locs cells slots Q (F0 m pc lsA (st.map (fj_vv ad))) := by
  obtain ⟨hx, hb, hml, hown, hts, hK, hSt, hA, hsc, hR, hcs⟩ := Fx
  obtain ⟨hP, hD, hS⟩ := hw
  obtain ⟨hdec, hnx⟩ := fj_dc he rfl
  replace hnx : nx = pc + 1 := hnx
  subst hnx
  rcases st with _ | ⟨x, _ | ⟨y, st⟩⟩
  all_goals try exact fj_nn hg
  have hg := fj_sj (a := (pc + 1, ls, x :: y :: x :: st, M)) hg
  subst hg
  refine lv_dup_x1 hx hb hdec (fj_vv_cat ad x) (fj_vv_cat ad y) ?_
  obtain ⟨v1, v2⟩ := List.forall_mem_cons.mp hv.2
  obtain ⟨v3, v4⟩ := List.forall_mem_cons.mp v2
  exact kk H locs lsA ⟨hP, hD, hS⟩ hl ⟨hv.1, List.forall_mem_cons.mpr ⟨v1, List.forall_mem_cons.mpr ⟨v3, List.forall_mem_cons.mpr ⟨v1, v4⟩⟩⟩⟩

theorem fj_g_goto {off : Int} (Fx : fj_Fix X sc D ad cI cR A p R s m args c k cells slots) (he : fj_code k pc = some (.goto off, nx, tg, sw)) (hg : fj_go X (.goto off, nx, tg, sw) ls st M = some d) (hw : fj_Wd D ad cI cR A s M H locs) (hl : fj_has ad lsA (fj_nL k) ls) (hv : fj_vals sc ls st)
    (kk : ∀ (H' : Heap) (locs' : List Loc) (lsA' : Array Slot), fj_Wd D ad cI cR A s d.2.2.2 H' locs' → fj_has ad lsA' (fj_nL k) d.2.1 → fj_vals sc d.2.1 d.2.2.1 → W p l e R s m args below meth c H' locs' cells slots Q (F0 m d.1 lsA' (d.2.2.1.map (fj_vv ad)))) : W p l e R s m args below meth c H locs cells slots Q (F0 m pc lsA (st.map (fj_vv ad))) := by
  obtain ⟨hx, hb, hml, hown, hts, hK, hSt, hA, hsc, hR, hcs⟩ := Fx
  obtain ⟨hP, hD, hS⟩ := hw
  obtain ⟨hdec, hnx⟩ := fj_dc he rfl
  replace hnx : nx = pc + 3 := hnx
  subst hnx
  have hi : (pc : Int) + off = (tg : Int) := of_decide_eq_true (fj_dx he)
  have hg := fj_sj (a := (tg, ls, st, M)) hg
  subst hg
  refine lv_goto hx hb hdec hi ?_
  exact kk H locs lsA ⟨hP, hD, hS⟩ hl hv

theorem fj_g_ifCond {cc : Jvm.ClassFile.Cond} {off : Int} (Fx : fj_Fix X sc D ad cI cR A p R s m args c k cells slots) (he : fj_code k pc = some (.ifCond cc off, nx, tg, sw)) (hg : fj_go X (.ifCond cc off, nx, tg, sw) ls st M = some d) (hw : fj_Wd D ad cI cR A s M H locs) (hl : fj_has ad lsA (fj_nL k) ls) (hv : fj_vals sc ls st)
    (kk : ∀ (H' : Heap) (locs' : List Loc) (lsA' : Array Slot), fj_Wd D ad cI cR A s d.2.2.2 H' locs' → fj_has ad lsA' (fj_nL k) d.2.1 → fj_vals sc d.2.1 d.2.2.1 → W p l e R s m args below meth c H' locs' cells slots Q (F0 m d.1 lsA' (d.2.2.1.map (fj_vv ad)))) : W p l e R s m args below meth c H locs cells slots Q (F0 m pc lsA (st.map (fj_vv ad))) := by
  obtain ⟨hx, hb, hml, hown, hts, hK, hSt, hA, hsc, hR, hcs⟩ := Fx
  obtain ⟨hP, hD, hS⟩ := hw
  obtain ⟨hdec, hnx⟩ := fj_dc he rfl
  replace hnx : nx = pc + 3 := hnx
  subst hnx
  have hi : (pc : Int) + off = (tg : Int) := of_decide_eq_true (fj_dx he)
  rcases st with _ | ⟨x | r, st⟩
  all_goals try exact fj_nn hg
  have hg := fj_sj (a := (bif fj_cm cc x 0 then tg else pc + 3, ls, st, M)) hg
  subst hg
  have kt : fj_cm cc x 0 = true → W p l e R s m args below meth c H locs cells slots Q (F0 m tg lsA (st.map (fj_vv ad))) := fun h => by
    have := kk H locs lsA ⟨hP, hD, hS⟩ hl ⟨hv.1, (List.forall_mem_cons.mp hv.2).2⟩
    rw [h] at this
    exact this
  have kf : ¬ fj_cm cc x 0 = true → W p l e R s m args below meth c H locs cells slots Q (F0 m (pc + 3) lsA (st.map (fj_vv ad))) := fun h => by
    have := kk H locs lsA ⟨hP, hD, hS⟩ hl ⟨hv.1, (List.forall_mem_cons.mp hv.2).2⟩
    rw [eq_false_of_ne_true h] at this
    exact this
  cases cc
  · exact lv_if_eq hx hb hdec hi (fun h => kt (decide_eq_true h)) (fun h => kf (fun z => h (of_decide_eq_true z)))
  · exact lv_if_ne hx hb hdec hi (fun h => kt (by simp [fj_cm, h])) (fun h => kf (by simp [fj_cm, h]))
  · exact lv_if_lt hx hb hdec hi (fun h => kt (decide_eq_true h)) (fun h => kf (fun z => h (of_decide_eq_true z)))
  · exact lv_if_ge hx hb hdec hi (fun h => kt (decide_eq_true h)) (fun h => kf (fun z => h (of_decide_eq_true z)))
  · exact lv_if_gt hx hb hdec hi (fun h => kt (decide_eq_true h)) (fun h => kf (fun z => h (of_decide_eq_true z)))
  · exact lv_if_le hx hb hdec hi (fun h => kt (decide_eq_true h)) (fun h => kf (fun z => h (of_decide_eq_true z)))

theorem fj_g_if_icmp {cc : Jvm.ClassFile.Cond} {off : Int} (Fx : fj_Fix X sc D ad cI cR A p R s m args c k cells slots) (he : fj_code k pc = some (.if_icmp cc off, nx, tg, sw)) (hg : fj_go X (.if_icmp cc off, nx, tg, sw) ls st M = some d) (hw : fj_Wd D ad cI cR A s M H locs) (hl : fj_has ad lsA (fj_nL k) ls) (hv : fj_vals sc ls st)
    (kk : ∀ (H' : Heap) (locs' : List Loc) (lsA' : Array Slot), fj_Wd D ad cI cR A s d.2.2.2 H' locs' → fj_has ad lsA' (fj_nL k) d.2.1 → fj_vals sc d.2.1 d.2.2.1 → W p l e R s m args below meth c H' locs' cells slots Q (F0 m d.1 lsA' (d.2.2.1.map (fj_vv ad)))) : W p l e R s m args below meth c H locs cells slots Q (F0 m pc lsA (st.map (fj_vv ad))) := by
  obtain ⟨hx, hb, hml, hown, hts, hK, hSt, hA, hsc, hR, hcs⟩ := Fx
  obtain ⟨hP, hD, hS⟩ := hw
  obtain ⟨hdec, hnx⟩ := fj_dc he rfl
  replace hnx : nx = pc + 3 := hnx
  subst hnx
  have hi : (pc : Int) + off = (tg : Int) := of_decide_eq_true (fj_dx he)
  rcases st with _ | ⟨y | r, _ | ⟨x | r2, st⟩⟩
  all_goals try exact fj_nn hg
  have hg := fj_sj (a := (bif fj_cm cc x y then tg else pc + 3, ls, st, M)) hg
  subst hg
  have kt : fj_cm cc x y = true → W p l e R s m args below meth c H locs cells slots Q (F0 m tg lsA (st.map (fj_vv ad))) := fun h => by
    have := kk H locs lsA ⟨hP, hD, hS⟩ hl ⟨hv.1, (List.forall_mem_cons.mp (List.forall_mem_cons.mp hv.2).2).2⟩
    rw [h] at this
    exact this
  have kf : ¬ fj_cm cc x y = true → W p l e R s m args below meth c H locs cells slots Q (F0 m (pc + 3) lsA (st.map (fj_vv ad))) := fun h => by
    have := kk H locs lsA ⟨hP, hD, hS⟩ hl ⟨hv.1, (List.forall_mem_cons.mp (List.forall_mem_cons.mp hv.2).2).2⟩
    rw [eq_false_of_ne_true h] at this
    exact this
  cases cc
  · exact lv_icmp_eq hx hb hdec hi (fun h => kt (decide_eq_true h)) (fun h => kf (fun z => h (of_decide_eq_true z)))
  · exact lv_icmp_ne hx hb hdec hi (fun h => kt (by simp [fj_cm, h])) (fun h => kf (by simp [fj_cm, h]))
  · exact lv_icmp_lt hx hb hdec hi (fun h => kt (decide_eq_true h)) (fun h => kf (fun z => h (of_decide_eq_true z)))
  · exact lv_icmp_ge hx hb hdec hi (fun h => kt (decide_eq_true h)) (fun h => kf (fun z => h (of_decide_eq_true z)))
  · exact lv_icmp_gt hx hb hdec hi (fun h => kt (decide_eq_true h)) (fun h => kf (fun z => h (of_decide_eq_true z)))
  · exact lv_icmp_le hx hb hdec hi (fun h => kt (decide_eq_true h)) (fun h => kf (fun z => h (of_decide_eq_true z)))

end FJG
end
section
/-! MEMORY, SWITCHES -/
theorem fj_val_in {sc : Prop} {κ a : Nat} {t : Nat × Nat × Nat × Nat} (hv : fj_val sc (.inr (κ, a))) (h : fj_lk κ fj_K = some t) : a < t.1 := by
  have hs : κ < 40 := fj_K_small _ (fj_lk_mem h)
  rcases hv with ⟨t2, h1, h2⟩ | h1 | h1 | ⟨h1, -⟩
  · have h1 : fj_lk κ fj_K = some t2 := h1
    rw [h] at h1
    cases h1
    exact h2
  · have : κ = 40 := congrArg Prod.fst h1
    omega
  · have : κ = 41 := congrArg Prod.fst h1
    omega
  · have : κ = 42 := congrArg Prod.fst h1
    omega
theorem fj_ln_small {X : fj_X} {κ : Nat} (h : κ < 40) : fj_ln X κ = (match fj_lk κ fj_K with
    | some (_, 1, n, _) => some n
    | _ => none) := by
  unfold fj_ln
  split
  · omega
  · omega
  · omega
  · rfl
theorem fj_gt_small {X : fj_X} {M : fj_M} {κ a j : Nat} (h : κ < 40) : fj_gt X M κ a j = fj_rd M κ a j := by
  unfold fj_gt
  split
  · omega
  · omega
  · omega
  · rfl
theorem fj_catsum (ad : Nat → Nat → Nat) (st : List fj_V) : ((st.map (fj_vv ad)).map fun v => v.category).sum = st.length := by
  induction st with
  | nil => rfl
  | cons z st ih =>
    rw [List.map_cons, List.map_cons, List.sum_cons, ih, fj_vv_cat, List.length_cons]
    omega
theorem fj_lks {pc tg : Nat} {dflt : Int} {x : Int32} (hd : (pc : Int) + dflt = (tg : Int)) : ∀ (ps : List (Int × Int)) (sw : List (Int32 × Nat)), ps.length = sw.length → (∀ q ∈ ps.zip sw, q.2.1.toInt = q.1.1 ∧ (pc : Int) + q.1.2 = (q.2.2 : Int)) → (pc : Int) + Op.lookupswitch.offset ps dflt x.toInt = (fj_sw tg sw x : Int)
  | [], [], _, _ => hd
  | [], _ :: _, h, _ => by simp at h
  | _ :: _, [], h, _ => by simp at h
  | (a, o) :: ps, q :: sw, h, hz => by
    have h0 := hz ((a, o), q) List.mem_cons_self
    have ih := fj_lks (x := x) hd ps sw (by simpa using h) (fun z hz2 => hz z (List.mem_cons_of_mem _ hz2))
    rw [Op.lookupswitch.offset_cons]
    show _ = ((if x = q.1 then q.2 else fj_sw tg sw x : Nat) : Int)
    by_cases hx : x = q.1
    · rw [if_pos hx, if_pos (by rw [hx]; exact h0.1.symm)]
      exact h0.2
    · rw [if_neg hx, if_neg (fun z => hx (Int32.toInt_inj.mp (by rw [h0.1]; exact z.symm)))]
      exact ih
section FJG
variable {X : fj_X} {sc : Prop} {D : va_G} {ad : Nat → Nat → Nat} {cI : ClassId} {cR : Nat → ClassId} {A : Nat → Prop} {p : Program} {l : Launch} {e : Env} {R : Room} {s : State} {m : MethodId} {args : Array Value} {below : List Frame} {meth : Method} {c : Code} {k cells slots : Nat} {Q : State → Prop}
variable {pc nx tg : Nat} {sw : List (Int32 × Nat)} {ls : fj_L} {st : List fj_V} {M : fj_M} {d : Nat × fj_L × List fj_V × fj_M} {H : Heap} {locs : List Loc} {lsA : Array Slot}
theorem fj_g_getfield {i : Nat} (Fx : fj_Fix X sc D ad cI cR A p R s m args c k cells slots) (he : fj_code k pc = some (.getfield i, nx, tg, sw)) (hg : fj_go X (.getfield i, nx, tg, sw) ls st M = some d) (hw : fj_Wd D ad cI cR A s M H locs) (hl : fj_has ad lsA (fj_nL k) ls) (hv : fj_vals sc ls st)
    (kk : ∀ (H' : Heap) (locs' : List Loc) (lsA' : Array Slot), fj_Wd D ad cI cR A s d.2.2.2 H' locs' → fj_has ad lsA' (fj_nL k) d.2.1 → fj_vals sc d.2.1 d.2.2.1 → W p l e R s m args below meth c H' locs' cells slots Q (F0 m d.1 lsA' (d.2.2.1.map (fj_vv ad)))) : W p l e R s m args below meth c H locs cells slots Q (F0 m pc lsA (st.map (fj_vv ad))) := by
  obtain ⟨hx, hb, hml, hown, hts, hK, hSt, hA, hsc, hR, hcs⟩ := Fx
  obtain ⟨hP, hD, hS⟩ := hw
  obtain ⟨hdec, hnx⟩ := fj_dc he rfl
  replace hnx : nx = pc + 3 := hnx
  subst hnx
  have hok := fj_dx he
  simp only [fj_okx, Bool.and_eq_true, decide_eq_true_eq] at hok
  obtain ⟨hi, hk⟩ := hok
  rcases st with _ | ⟨x | ⟨r1, r2⟩, st⟩
  · exact fj_nn hg
  · exact fj_nn hg
  have hg : (match Nat.beq (tg / 100) r1 with
      | true => match fj_lk tg fj_F with
        | some κ => some (pc + 3, ls, (.inr (κ, r2) :: st : List fj_V), M)
        | none => some (pc + 3, ls, .inl (fj_rd M (tg / 100) r2 (tg % 100)) :: st, M)
      | false => none) = some d := hg
  obtain ⟨v1, v2⟩ := List.forall_mem_cons.mp hv.2
  cases hbq : Nat.beq (tg / 100) r1 with
  | false => rw [hbq] at hg; cases hg
  | true =>
    rw [hbq] at hg
    have hr : tg / 100 = r1 := Nat.eq_of_beq_eq_true hbq
    have htg : tg / 100 * 100 + tg % 100 = tg := by omega
    generalize hj : tg % 100 = j at *
    rw [hr] at hk htg hg
    rw [← htg] at hg
    have hm := fj_lk_mem hk
    obtain ⟨n, ci, C, T, N, ty, h1, h2, h3, h4, h5, h6, h7, h8⟩ := fj_objs hm
    rw [(fj_div (o := fj_ow k) hi).1, (fj_div (o := fj_ow k) hi).2] at h7
    obtain ⟨p0, hp⟩ := fj_cell_at h1 (fj_val_in v1 h1)
    have hws := fj_ws_at (ad := ad) (cI := cI) (cR := cR) (M := M) hp
    rw [fj_E_obj h1] at hws
    cases hF : fj_lk (r1 * 100 + j) fj_F with
    | some κ2 =>
      rw [hF] at hg
      have hg := fj_sj hg
      subst hg
      refine va_get (v := .ref (ad κ2 r2)) hx hb hts h3 hown hK hP p0 hws h2 j h6 (hts _ h7) (fun _ h9 => h9) (by rw [List.getElem?_map, List.getElem?_range h6]; simp [fj_fv, hF]) hdec ?_
      refine kk H locs lsA ⟨hP, hD, hS⟩ hl ⟨hv.1, List.forall_mem_cons.mpr ⟨Or.inl ?_, v2⟩⟩
      have h9 := fj_F_ok _ hm κ2 hF
      have h10 : (fj_lk r1 fj_K).map (fun t => t.1) = some n := by rw [h1]; rfl
      have h11 : (fj_lk κ2 fj_K).map (fun t => t.1) = some n := h9.trans h10
      obtain ⟨t, ht, ht2⟩ := Option.map_eq_some_iff.mp h11
      exact ⟨t, ht, by rw [ht2]; exact fj_val_in v1 h1⟩
    | none =>
      rw [hF] at hg
      have hg := fj_sj hg
      subst hg
      refine va_get (v := .int (fj_rd M r1 r2 j)) hx hb hts h3 hown hK hP p0 hws h2 j h6 (hts _ h7) (fun _ h9 => h9) (by rw [List.getElem?_map, List.getElem?_range h6]; simp [fj_fv, hF]) hdec ?_
      exact kk H locs lsA ⟨hP, hD, hS⟩ hl ⟨hv.1, List.forall_mem_cons.mpr ⟨trivial, v2⟩⟩

theorem fj_g_putfield {i : Nat} (Fx : fj_Fix X sc D ad cI cR A p R s m args c k cells slots) (he : fj_code k pc = some (.putfield i, nx, tg, sw)) (hg : fj_go X (.putfield i, nx, tg, sw) ls st M = some d) (hw : fj_Wd D ad cI cR A s M H locs) (hl : fj_has ad lsA (fj_nL k) ls) (hv : fj_vals sc ls st)
    (kk : ∀ (H' : Heap) (locs' : List Loc) (lsA' : Array Slot), fj_Wd D ad cI cR A s d.2.2.2 H' locs' → fj_has ad lsA' (fj_nL k) d.2.1 → fj_vals sc d.2.1 d.2.2.1 → W p l e R s m args below meth c H' locs' cells slots Q (F0 m d.1 lsA' (d.2.2.1.map (fj_vv ad)))) : W p l e R s m args below meth c H locs cells slots Q (F0 m pc lsA (st.map (fj_vv ad))) := by
  obtain ⟨hx, hb, hml, hown, hts, hK, hSt, hA, hsc, hR, hcs⟩ := Fx
  obtain ⟨hP, hD, hS⟩ := hw
  obtain ⟨hdec, hnx⟩ := fj_dc he rfl
  replace hnx : nx = pc + 3 := hnx
  subst hnx
  have hok := fj_dx he
  simp only [fj_okx, Bool.and_eq_true, decide_eq_true_eq] at hok
  obtain ⟨hi, hk⟩ := hok
  rcases st with _ | ⟨v | r, _ | ⟨x | ⟨r1, r2⟩, st⟩⟩
  · exact fj_nn hg
  · exact fj_nn hg
  · exact fj_nn hg
  rotate_left
  · exact fj_nn hg
  · exact fj_nn hg
  · exact fj_nn hg
  have hg : (match Nat.beq (tg / 100) r1 with
      | true => match fj_lk tg fj_F with
        | some _ => none
        | none => some (pc + 3, ls, st, fj_up M (tg / 100) r2 (tg % 100) v)
      | false => none) = some d := hg
  obtain ⟨v1, v2⟩ := List.forall_mem_cons.mp (List.forall_mem_cons.mp hv.2).2
  cases hbq : Nat.beq (tg / 100) r1 with
  | false => rw [hbq] at hg; cases hg
  | true =>
    rw [hbq] at hg
    have hr : tg / 100 = r1 := Nat.eq_of_beq_eq_true hbq
    have htg : tg / 100 * 100 + tg % 100 = tg := by omega
    generalize hj : tg % 100 = j at *
    rw [hr] at hk htg hg
    rw [← htg] at hg
    have hm := fj_lk_mem hk
    obtain ⟨n, ci, C, T, N, ty, h1, h2, h3, h4, h5, h6, h7, h8⟩ := fj_objs hm
    rw [(fj_div (o := fj_ow k) hi).1, (fj_div (o := fj_ow k) hi).2] at h7
    obtain ⟨p0, hp⟩ := fj_cell_at h1 (fj_val_in v1 h1)
    have hws := fj_ws_at (ad := ad) (cI := cI) (cR := cR) (M := M) hp
    rw [fj_E_obj h1] at hws
    cases hF : fj_lk (r1 * 100 + j) fj_F with
    | some κ2 => rw [hF] at hg; cases hg
    | none =>
      rw [hF] at hg
      have hg := fj_sj hg
      subst hg
      refine va_put (v := .int v) (ty := .int) hx hb hts h3 ty h4 h5 hown hK hP hD hS p0 hws h2 j h6 (hts _ h7) (fun _ h9 => h9) (h8 hF).1 (h8 hF).2 rfl rfl (by rw [List.length_map, List.length_range]; exact h6) hdec (fun H1 locs1 hP1 hD1 hS1 => ?_)
      rw [fj_ws_set hp (by rw [fj_E_obj h1, fj_fs_set hF h6])] at hP1 hD1
      exact kk H1 locs1 lsA ⟨hP1, hD1, hS1⟩ hl ⟨hv.1, v2⟩

theorem fj_g_getstatic {i : Nat} (Fx : fj_Fix X sc D ad cI cR A p R s m args c k cells slots) (he : fj_code k pc = some (.getstatic i, nx, tg, sw)) (hg : fj_go X (.getstatic i, nx, tg, sw) ls st M = some d) (hw : fj_Wd D ad cI cR A s M H locs) (hl : fj_has ad lsA (fj_nL k) ls) (hv : fj_vals sc ls st)
    (kk : ∀ (H' : Heap) (locs' : List Loc) (lsA' : Array Slot), fj_Wd D ad cI cR A s d.2.2.2 H' locs' → fj_has ad lsA' (fj_nL k) d.2.1 → fj_vals sc d.2.1 d.2.2.1 → W p l e R s m args below meth c H' locs' cells slots Q (F0 m d.1 lsA' (d.2.2.1.map (fj_vv ad)))) : W p l e R s m args below meth c H locs cells slots Q (F0 m pc lsA (st.map (fj_vv ad))) := by
  obtain ⟨hx, hb, hml, hown, hts, hK, hSt, hA, hsc, hR, hcs⟩ := Fx
  obtain ⟨hP, hD, hS⟩ := hw
  obtain ⟨hdec, hnx⟩ := fj_dc he rfl
  replace hnx : nx = pc + 3 := hnx
  subst hnx
  have hok := fj_dx he
  simp only [fj_okx, Bool.and_eq_true, decide_eq_true_eq] at hok
  obtain ⟨hi, hk⟩ := hok
  have hg := fj_sj (a := (pc + 3, ls, (.inr (tg, 0) :: st : List fj_V), M)) hg
  subst hg
  have hq := fj_sl_ok _ (fj_lk_mem hk)
  simp only [(fj_div (o := fj_ow k) hi).1, (fj_div (o := fj_ow k) hi).2] at hq
  rcases hq with ⟨h2, hq1⟩ | ⟨h2, hq1⟩
  · subst h2
    refine va_gets hx hb hSt.1 hS hown (hts _ hq1) (fun _ h9 => h9) hdec ?_
    exact kk H locs lsA ⟨hP, hD, hS⟩ hl ⟨hv.1, List.forall_mem_cons.mpr ⟨Or.inr (Or.inl rfl), hv.2⟩⟩
  · subst h2
    refine va_gets hx hb hSt.2.2.1 hS hown (hts _ hq1) (fun _ h9 => h9) hdec ?_
    exact kk H locs lsA ⟨hP, hD, hS⟩ hl ⟨hv.1, List.forall_mem_cons.mpr ⟨Or.inr (Or.inr (Or.inl rfl)), hv.2⟩⟩

theorem fj_g_iaload  (Fx : fj_Fix X sc D ad cI cR A p R s m args c k cells slots) (he : fj_code k pc = some (.iaload, nx, tg, sw)) (hg : fj_go X (.iaload, nx, tg, sw) ls st M = some d) (hw : fj_Wd D ad cI cR A s M H locs) (hl : fj_has ad lsA (fj_nL k) ls) (hv : fj_vals sc ls st)
    (kk : ∀ (H' : Heap) (locs' : List Loc) (lsA' : Array Slot), fj_Wd D ad cI cR A s d.2.2.2 H' locs' → fj_has ad lsA' (fj_nL k) d.2.1 → fj_vals sc d.2.1 d.2.2.1 → W p l e R s m args below meth c H' locs' cells slots Q (F0 m d.1 lsA' (d.2.2.1.map (fj_vv ad)))) : W p l e R s m args below meth c H locs cells slots Q (F0 m pc lsA (st.map (fj_vv ad))) := by
  obtain ⟨hx, hb, hml, hown, hts, hK, hSt, hA, hsc, hR, hcs⟩ := Fx
  obtain ⟨hP, hD, hS⟩ := hw
  obtain ⟨hdec, hnx⟩ := fj_dc he rfl
  replace hnx : nx = pc + 1 := hnx
  subst hnx
  rcases st with _ | ⟨x | r, _ | ⟨y | ⟨κ, a⟩, st⟩⟩
  · exact fj_nn hg
  · exact fj_nn hg
  · exact fj_nn hg
  rotate_left
  · exact fj_nn hg
  · exact fj_nn hg
  · exact fj_nn hg
  have hg : (match fj_ln X κ with
      | some n => if x < 0 ∨ n ≤ x.toNatClampNeg then none else some (pc + 1, ls, (.inl (fj_gt X M κ a x.toNatClampNeg) :: st : List fj_V), M)
      | none => none) = some d := hg
  obtain ⟨v1, v2⟩ := List.forall_mem_cons.mp (List.forall_mem_cons.mp hv.2).2
  cases hn : fj_ln X κ with
  | none => rw [hn] at hg; cases hg
  | some n =>
    rw [hn] at hg
    simp only at hg
    by_cases hin : x < 0 ∨ n ≤ x.toNatClampNeg
    · rw [if_pos hin] at hg; cases hg
    rw [if_neg hin] at hg
    have hg := fj_sj hg
    subst hg
    have hk2 := kk H locs lsA ⟨hP, hD, hS⟩ hl ⟨hv.1, List.forall_mem_cons.mpr ⟨trivial, v2⟩⟩
    rcases v1 with ⟨t, h1, h2⟩ | h1 | h1 | ⟨h1, h2⟩
    · have h1 : fj_lk κ fj_K = some t := h1
      have hs : κ < 40 := fj_K_small _ (fj_lk_mem h1)
      rw [fj_ln_small hs] at hn
      split at hn
      · rename_i n0 n1 b1 hK1
        have hn := fj_sj hn
        subst hn
        obtain ⟨p0, hp⟩ := fj_cell_at h1 h2
        have hws := fj_ws_at (ad := ad) (cI := cI) (cR := cR) (M := M) hp
        rw [fj_E_arr hK1] at hws
        refine va_iald hx hb hK hP p0 0 hws rfl hin hdec ?_
        have e : fj_gt X M κ a x.toNatClampNeg = fj_rd M κ a x.toNatClampNeg := fj_gt_small hs
        rw [← e]
        exact hk2
      · cases hn
    · cases h1
      have hn := fj_sj (a := 46) hn
      subst hn
      exact va_ti hx hb hSt.2.1 hS hin rfl hdec hk2
    · cases h1
      have hn := fj_sj (a := 46) hn
      subst hn
      exact va_ti hx hb hSt.2.2.2 hS hin rfl hdec hk2
    · cases h1
      have hn := fj_sj (a := X.1) hn
      subst hn
      obtain ⟨g1, g2, g3⟩ := hsc h2
      exact va_sld hx hb g1 g2 g3 hS hin hdec hk2

theorem fj_g_arraylength  (Fx : fj_Fix X sc D ad cI cR A p R s m args c k cells slots) (he : fj_code k pc = some (.arraylength, nx, tg, sw)) (hg : fj_go X (.arraylength, nx, tg, sw) ls st M = some d) (hw : fj_Wd D ad cI cR A s M H locs) (hl : fj_has ad lsA (fj_nL k) ls) (hv : fj_vals sc ls st)
    (kk : ∀ (H' : Heap) (locs' : List Loc) (lsA' : Array Slot), fj_Wd D ad cI cR A s d.2.2.2 H' locs' → fj_has ad lsA' (fj_nL k) d.2.1 → fj_vals sc d.2.1 d.2.2.1 → W p l e R s m args below meth c H' locs' cells slots Q (F0 m d.1 lsA' (d.2.2.1.map (fj_vv ad)))) : W p l e R s m args below meth c H locs cells slots Q (F0 m pc lsA (st.map (fj_vv ad))) := by
  obtain ⟨hx, hb, hml, hown, hts, hK, hSt, hA, hsc, hR, hcs⟩ := Fx
  obtain ⟨hP, hD, hS⟩ := hw
  obtain ⟨hdec, hnx⟩ := fj_dc he rfl
  replace hnx : nx = pc + 1 := hnx
  subst hnx
  rcases st with _ | ⟨x | ⟨κ, a⟩, st⟩
  · exact fj_nn hg
  · exact fj_nn hg
  have hg : (match fj_ln X κ with
      | some n => some (pc + 1, ls, (.inl (Int32.ofNat n) :: st : List fj_V), M)
      | none => none) = some d := hg
  obtain ⟨v1, v2⟩ := List.forall_mem_cons.mp hv.2
  cases hn : fj_ln X κ with
  | none => rw [hn] at hg; cases hg
  | some n =>
    rw [hn] at hg
    have hg := fj_sj hg
    subst hg
    have hk2 := kk H locs lsA ⟨hP, hD, hS⟩ hl ⟨hv.1, List.forall_mem_cons.mpr ⟨trivial, v2⟩⟩
    rcases v1 with ⟨t, h1, h2⟩ | h1 | h1 | ⟨h1, h2⟩
    · have h1 : fj_lk κ fj_K = some t := h1
      have hs : κ < 40 := fj_K_small _ (fj_lk_mem h1)
      rw [fj_ln_small hs] at hn
      split at hn
      · rename_i n0 n1 b1 hK1
        have hn := fj_sj hn
        subst hn
        obtain ⟨p0, hp⟩ := fj_cell_at h1 h2
        have hws := fj_ws_at (ad := ad) (cI := cI) (cR := cR) (M := M) hp
        rw [fj_E_arr hK1] at hws
        exact va_alen hx hb hK hP p0 0 hws rfl rfl hdec hk2
      · cases hn
    · cases h1
      have hn := fj_sj (a := 46) hn
      subst hn
      exact va_tlen hx hb hSt.2.1 hS rfl hdec hk2
    · cases h1
      have hn := fj_sj (a := 46) hn
      subst hn
      exact va_tlen hx hb hSt.2.2.2 hS rfl hdec hk2
    · cases h1
      have hn := fj_sj (a := X.1) hn
      subst hn
      obtain ⟨g1, g2, g3⟩ := hsc h2
      exact va_slen hx hb g1 g2 g3 hS hdec hk2

theorem fj_g_iastore  (Fx : fj_Fix X sc D ad cI cR A p R s m args c k cells slots) (he : fj_code k pc = some (.iastore, nx, tg, sw)) (hg : fj_go X (.iastore, nx, tg, sw) ls st M = some d) (hw : fj_Wd D ad cI cR A s M H locs) (hl : fj_has ad lsA (fj_nL k) ls) (hv : fj_vals sc ls st)
    (kk : ∀ (H' : Heap) (locs' : List Loc) (lsA' : Array Slot), fj_Wd D ad cI cR A s d.2.2.2 H' locs' → fj_has ad lsA' (fj_nL k) d.2.1 → fj_vals sc d.2.1 d.2.2.1 → W p l e R s m args below meth c H' locs' cells slots Q (F0 m d.1 lsA' (d.2.2.1.map (fj_vv ad)))) : W p l e R s m args below meth c H locs cells slots Q (F0 m pc lsA (st.map (fj_vv ad))) := by
  obtain ⟨hx, hb, hml, hown, hts, hK, hSt, hA, hsc, hR, hcs⟩ := Fx
  obtain ⟨hP, hD, hS⟩ := hw
  obtain ⟨hdec, hnx⟩ := fj_dc he rfl
  replace hnx : nx = pc + 1 := hnx
  subst hnx
  rcases st with _ | ⟨v | r, _ | ⟨x | r, _ | ⟨y | ⟨κ, a⟩, st⟩⟩⟩
  all_goals first | exact fj_nn hg | skip
  have hg : (match fj_lk κ fj_K with
      | some (_, 1, n, _) => if x < 0 ∨ n ≤ x.toNatClampNeg then none else some (pc + 1, ls, st, fj_up M κ a x.toNatClampNeg v)
      | _ => none) = some d := hg
  obtain ⟨v1, v2⟩ := List.forall_mem_cons.mp (List.forall_mem_cons.mp (List.forall_mem_cons.mp hv.2).2).2
  split at hg
  · rename_i n0 n b1 hK1
    by_cases hin : x < 0 ∨ n ≤ x.toNatClampNeg
    · rw [if_pos hin] at hg; cases hg
    rw [if_neg hin] at hg
    have hg := fj_sj hg
    subst hg
    obtain ⟨p0, hp⟩ := fj_cell_at hK1 (fj_val_in v1 hK1)
    have hws := fj_ws_at (ad := ad) (cI := cI) (cR := cR) (M := M) hp
    rw [fj_E_arr hK1] at hws
    refine va_iast hx hb hK hP hD hS p0 0 hws rfl hin hdec (fun H1 locs1 hP1 hD1 hS1 => ?_)
    rw [fj_ws_set hp (by rw [fj_E_arr hK1, fj_arr_upd])] at hP1 hD1
    exact kk H1 locs1 lsA ⟨hP1, hD1, hS1⟩ hl ⟨hv.1, v2⟩
  · cases hg

theorem fj_g_aaload  (Fx : fj_Fix X sc D ad cI cR A p R s m args c k cells slots) (he : fj_code k pc = some (.aaload, nx, tg, sw)) (hg : fj_go X (.aaload, nx, tg, sw) ls st M = some d) (hw : fj_Wd D ad cI cR A s M H locs) (hl : fj_has ad lsA (fj_nL k) ls) (hv : fj_vals sc ls st)
    (kk : ∀ (H' : Heap) (locs' : List Loc) (lsA' : Array Slot), fj_Wd D ad cI cR A s d.2.2.2 H' locs' → fj_has ad lsA' (fj_nL k) d.2.1 → fj_vals sc d.2.1 d.2.2.1 → W p l e R s m args below meth c H' locs' cells slots Q (F0 m d.1 lsA' (d.2.2.1.map (fj_vv ad)))) : W p l e R s m args below meth c H locs cells slots Q (F0 m pc lsA (st.map (fj_vv ad))) := by
  obtain ⟨hx, hb, hml, hown, hts, hK, hSt, hA, hsc, hR, hcs⟩ := Fx
  obtain ⟨hP, hD, hS⟩ := hw
  obtain ⟨hdec, hnx⟩ := fj_dc he rfl
  replace hnx : nx = pc + 1 := hnx
  subst hnx
  rcases st with _ | ⟨x | r, _ | ⟨y | ⟨κ, a⟩, st⟩⟩
  all_goals first | exact fj_nn hg | skip
  have hg : (match fj_lk κ fj_K with
      | some (_, 2, n, κ2) => if x < 0 ∨ n ≤ x.toNatClampNeg then none else some (pc + 1, ls, (.inr (κ2, x.toNatClampNeg) :: st : List fj_V), M)
      | _ => none) = some d := hg
  obtain ⟨v1, v2⟩ := List.forall_mem_cons.mp (List.forall_mem_cons.mp hv.2).2
  split at hg
  · rename_i n0 n κ2 hK1
    by_cases hin : x < 0 ∨ n ≤ x.toNatClampNeg
    · rw [if_pos hin] at hg; cases hg
    rw [if_neg hin] at hg
    have hg := fj_sj hg
    subst hg
    obtain ⟨p0, hp⟩ := fj_cell_at hK1 (fj_val_in v1 hK1)
    have hws := fj_ws_at (ad := ad) (cI := cI) (cR := cR) (M := M) hp
    rw [fj_E_ref hK1] at hws
    obtain ⟨hq1, hq2⟩ := fj_ref_ok _ (fj_lk_mem hK1) rfl
    have hlt : x.toNatClampNeg < n := Nat.not_le.mp fun q => hin (Or.inr q)
    have hval : fj_val sc (.inr (κ2, x.toNatClampNeg)) := by
      obtain ⟨t, ht, ht2⟩ := Option.map_eq_some_iff.mp hq1
      exact Or.inl ⟨t, ht, by rw [ht2]; exact hlt⟩
    have hk2 := kk H locs lsA ⟨hP, hD, hS⟩ hl ⟨hv.1, List.forall_mem_cons.mpr ⟨hval, v2⟩⟩
    rcases hq2 with h7 | h7
    · have h7 : κ2 = 7 := h7
      subst h7
      exact va_aldq hx hb hK hP p0 1 hws rfl hin hdec hk2
    · have h7 : κ2 = 10 := h7
      subst h7
      exact va_aldq hx hb hK hP p0 2 hws rfl hin hdec hk2
  · cases hg

theorem fj_g_tableswitch {df lo hi : Int} {offs : Array Int} (Fx : fj_Fix X sc D ad cI cR A p R s m args c k cells slots) (he : fj_code k pc = some (.tableswitch df lo hi offs, nx, tg, sw)) (hg : fj_go X (.tableswitch df lo hi offs, nx, tg, sw) ls st M = some d) (hw : fj_Wd D ad cI cR A s M H locs) (hl : fj_has ad lsA (fj_nL k) ls) (hv : fj_vals sc ls st)
    (kk : ∀ (H' : Heap) (locs' : List Loc) (lsA' : Array Slot), fj_Wd D ad cI cR A s d.2.2.2 H' locs' → fj_has ad lsA' (fj_nL k) d.2.1 → fj_vals sc d.2.1 d.2.2.1 → W p l e R s m args below meth c H' locs' cells slots Q (F0 m d.1 lsA' (d.2.2.1.map (fj_vv ad)))) : W p l e R s m args below meth c H locs cells slots Q (F0 m pc lsA (st.map (fj_vv ad))) := by
  obtain ⟨hx, hb, hml, hown, hts, hK, hSt, hA, hsc, hR, hcs⟩ := Fx
  obtain ⟨hP, hD, hS⟩ := hw
  have hok := fj_code_ok he
  simp only [fj_ok, Bool.and_eq_true, decide_eq_true_eq] at hok
  obtain ⟨⟨hdec, -⟩, hox⟩ := hok
  rcases st with _ | ⟨x | r, st⟩
  · exact fj_nn hg
  rotate_left
  · exact fj_nn hg
  have hg := fj_sj (a := (fj_sw tg sw x, ls, st, M)) hg
  subst hg
  have hk2 := kk H locs lsA ⟨hP, hD, hS⟩ hl ⟨hv.1, (List.forall_mem_cons.mp hv.2).2⟩
  simp only [fj_okx, Bool.and_eq_true, decide_eq_true_eq, List.all_eq_true] at hox
  obtain ⟨⟨h1, h2⟩, h3⟩ := hox
  rcases fj_sw_in (d := tg) (x := x) sw with ⟨i, q, g1, g2, g3⟩ | ⟨g1, g2⟩
  · have hil : i < sw.length := (List.getElem?_eq_some_iff.mp g1).1
    have h4 := h3 i (List.mem_range.mpr hil)
    rw [g1] at h4
    cases ho : offs[i]? with
    | none => rw [ho] at h4; cases h4
    | some off =>
      rw [ho] at h4
      simp only [Bool.and_eq_true, decide_eq_true_eq] at h4
      rw [g2] at h4
      refine lv_tableIn (off := off) (tgt := q.2) hx hb hdec (by omega) (by omega) (by rw [show (x.toInt - lo).toNat = i by omega]; exact ho) h4.2 ?_
      rw [← g3]
      exact hk2
  · refine lv_tableOut (tgt := tg) hx hb hdec ?_ h1 (by rw [← g2]; exact hk2)
    rcases Int.lt_or_le x.toInt lo with z | z
    · exact Or.inl z
    rcases Int.lt_or_le hi x.toInt with z2 | z2
    · exact Or.inr z2
    exfalso
    have hil : (x.toInt - lo).toNat < sw.length := by omega
    have h4 := h3 _ (List.mem_range.mpr hil)
    rw [List.getElem?_eq_getElem hil] at h4
    split at h4
    · rename_i s1 off e1 e2
      have e1 := fj_sj e1
      simp only [Bool.and_eq_true, decide_eq_true_eq] at h4
      refine g1 _ (List.getElem_mem hil) ?_
      rw [e1]
      apply Int32.toInt_inj.mp
      rw [h4.1]
      omega
    · cases h4

theorem fj_g_lookupswitch {df : Int} {pairs : Array (Int × Int)} (Fx : fj_Fix X sc D ad cI cR A p R s m args c k cells slots) (he : fj_code k pc = some (.lookupswitch df pairs, nx, tg, sw)) (hg : fj_go X (.lookupswitch df pairs, nx, tg, sw) ls st M = some d) (hw : fj_Wd D ad cI cR A s M H locs) (hl : fj_has ad lsA (fj_nL k) ls) (hv : fj_vals sc ls st)
    (kk : ∀ (H' : Heap) (locs' : List Loc) (lsA' : Array Slot), fj_Wd D ad cI cR A s d.2.2.2 H' locs' → fj_has ad lsA' (fj_nL k) d.2.1 → fj_vals sc d.2.1 d.2.2.1 → W p l e R s m args below meth c H' locs' cells slots Q (F0 m d.1 lsA' (d.2.2.1.map (fj_vv ad)))) : W p l e R s m args below meth c H locs cells slots Q (F0 m pc lsA (st.map (fj_vv ad))) := by
  obtain ⟨hx, hb, hml, hown, hts, hK, hSt, hA, hsc, hR, hcs⟩ := Fx
  obtain ⟨hP, hD, hS⟩ := hw
  have hok := fj_code_ok he
  simp only [fj_ok, Bool.and_eq_true, decide_eq_true_eq] at hok
  obtain ⟨⟨hdec, -⟩, hox⟩ := hok
  rcases st with _ | ⟨x | r, st⟩
  · exact fj_nn hg
  rotate_left
  · exact fj_nn hg
  have hg := fj_sj (a := (fj_sw tg sw x, ls, st, M)) hg
  subst hg
  have hk2 := kk H locs lsA ⟨hP, hD, hS⟩ hl ⟨hv.1, (List.forall_mem_cons.mp hv.2).2⟩
  simp only [fj_okx, Bool.and_eq_true, decide_eq_true_eq, List.all_eq_true] at hox
  obtain ⟨⟨⟨h1, h2⟩, h3⟩, h4⟩ := hox
  have h5 := fj_lks (x := x) h1 pairs.toList sw h3 (fun q hq => by
    have := h4 q hq
    simpa using this)
  refine lv_lookup (off := Op.lookupswitch.offset pairs.toList df x.toInt) (tgt := fj_sw tg sw x) hx hb hdec ?_ rfl h5 hk2
  rw [List.all_eq_true]
  intro z hz
  obtain ⟨z1, z2⟩ := z
  exact decide_eq_true (h2 _ hz)

theorem fj_g_invokestatic {i : Nat} (hlk : tg = 999) (hst : st.length ≤ 10) (Fx : fj_Fix X sc D ad cI cR A p R s m args c k cells slots) (he : fj_code k pc = some (.invokestatic i, nx, tg, sw)) (hg : fj_go X (.invokestatic i, nx, tg, sw) ls st M = some d) (hw : fj_Wd D ad cI cR A s M H locs) (hl : fj_has ad lsA (fj_nL k) ls) (hv : fj_vals sc ls st)
    (kk : ∀ (H' : Heap) (locs' : List Loc) (lsA' : Array Slot), fj_Wd D ad cI cR A s d.2.2.2 H' locs' → fj_has ad lsA' (fj_nL k) d.2.1 → fj_vals sc d.2.1 d.2.2.1 → W p l e R s m args below meth c H' locs' cells slots Q (F0 m d.1 lsA' (d.2.2.1.map (fj_vv ad)))) : W p l e R s m args below meth c H locs cells slots Q (F0 m pc lsA (st.map (fj_vv ad))) := by
  obtain ⟨hx, hb, hml, hown, hts, hK, hSt, hA, hsc, hR, hcs⟩ := Fx
  obtain ⟨hP, hD, hS⟩ := hw
  obtain ⟨hdec, hnx⟩ := fj_dc he rfl
  replace hnx : nx = pc + 3 := hnx
  subst hnx
  have hok := fj_dx he
  have htg : tg = 999 := hlk
  subst htg
  simp only [fj_okx, Bool.and_eq_true, decide_eq_true_eq] at hok
  obtain ⟨hi, hok⟩ := hok
  have hok : (decide (fj_ow k * 1000 + i = fj_min) && decide (1 ≤ fj_fr k) && decide (8 + 13 ≤ fj_lc k)) = true := hok
  simp only [Bool.and_eq_true, decide_eq_true_eq] at hok
  obtain ⟨⟨hmn, hfr⟩, hlc⟩ := hok
  rcases st with _ | ⟨y | r, _ | ⟨x | r2, st⟩⟩
  rotate_left 2
  · have hg := fj_sj (a := (pc + 3, ls, (.inl (if y < x then y else x) :: st : List fj_V), M)) hg
    subst hg
    have hk2 := kk H locs lsA ⟨hP, hD, hS⟩ hl ⟨hv.1, List.forall_mem_cons.mpr ⟨trivial, (List.forall_mem_cons.mp (List.forall_mem_cons.mp hv.2).2).2⟩⟩
    obtain ⟨w1, w2, w3, w4⟩ := fj_min_w
    have hd := fj_div (o := fj_ow k) hi
    rw [hmn] at hd
    rw [hd.1, hd.2] at w1
    have hcat := fj_catsum ad st
    have hst : st.length + 2 ≤ 10 := hst
    refine va_mmin hx hb (hml.trans hl.1.symm) hown (hts _ w1) (hts _ w2) (hts _ w3) (hts _ w4) (Nat.le_trans hfr hR.1) ?_ hcs.1 hcs.2 hdec hk2
    rw [hcat]
    have := hR.2
    omega
  all_goals exact fj_nn hg

end FJG
end
section
section FJG
variable {X : fj_X} {sc : Prop} {D : va_G} {ad : Nat → Nat → Nat} {cI : ClassId} {cR : Nat → ClassId} {A : Nat → Prop} {p : Program} {l : Launch} {e : Env} {R : Room} {s : State} {m : MethodId} {args : Array Value} {below : List Frame} {meth : Method} {c : Code} {k cells slots : Nat} {Q : State → Prop}
variable {pc nx tg : Nat} {sw : List (Int32 × Nat)} {ls : fj_L} {st : List fj_V} {M : fj_M} {d : Nat × fj_L × List fj_V × fj_M} {H : Heap} {locs : List Loc} {lsA : Array Slot}
theorem fj_goW {e0 : fj_I} (Fx : fj_Fix X sc D ad cI cR A p R s m args c k cells slots) (he : fj_code k pc = some e0) (hg : fj_go X e0 ls st M = some d) (hmin : ∀ i, e0.1 = .invokestatic i → e0.2.2.1 = 999 ∧ st.length ≤ 10) (hw : fj_Wd D ad cI cR A s M H locs) (hl : fj_has ad lsA (fj_nL k) ls) (hv : fj_vals sc ls st)
    (kk : ∀ (H' : Heap) (locs' : List Loc) (lsA' : Array Slot), fj_Wd D ad cI cR A s d.2.2.2 H' locs' → fj_has ad lsA' (fj_nL k) d.2.1 → fj_vals sc d.2.1 d.2.2.1 → W p l e R s m args below meth c H' locs' cells slots Q (F0 m d.1 lsA' (d.2.2.1.map (fj_vv ad)))) : W p l e R s m args below meth c H locs cells slots Q (F0 m pc lsA (st.map (fj_vv ad))) := by
  obtain ⟨ins, nx, tg, sw⟩ := e0
  cases ins
  case iadd => exact fj_g_iadd Fx he hg hw hl hv kk
  case isub => exact fj_g_isub Fx he hg hw hl hv kk
  case imul => exact fj_g_imul Fx he hg hw hl hv kk
  case iand => exact fj_g_iand Fx he hg hw hl hv kk
  case ior => exact fj_g_ior Fx he hg hw hl hv kk
  case ixor => exact fj_g_ixor Fx he hg hw hl hv kk
  case ishl => exact fj_g_ishl Fx he hg hw hl hv kk
  case ishr => exact fj_g_ishr Fx he hg hw hl hv kk
  case idiv => exact fj_g_idiv Fx he hg hw hl hv kk
  case irem => exact fj_g_irem Fx he hg hw hl hv kk
  case ineg => exact fj_g_ineg Fx he hg hw hl hv kk
  case iconst => exact fj_g_iconst Fx he hg hw hl hv kk
  case bipush => exact fj_g_bipush Fx he hg hw hl hv kk
  case sipush => exact fj_g_sipush Fx he hg hw hl hv kk
  case ldc => exact fj_g_ldc Fx he hg hw hl hv kk
  case ldc_w => exact fj_g_ldc_w Fx he hg hw hl hv kk
  case iload_n => exact fj_g_iload_n Fx he hg hw hl hv kk
  case iload => exact fj_g_iload Fx he hg hw hl hv kk
  case aload_n => exact fj_g_aload_n Fx he hg hw hl hv kk
  case istore_n => exact fj_g_istore_n Fx he hg hw hl hv kk
  case istore => exact fj_g_istore Fx he hg hw hl hv kk
  case astore_n => exact fj_g_astore_n Fx he hg hw hl hv kk
  case iinc => exact fj_g_iinc Fx he hg hw hl hv kk
  case dup => exact fj_g_dup Fx he hg hw hl hv kk
  case pop => exact fj_g_pop Fx he hg hw hl hv kk
  case dup2 => exact fj_g_dup2 Fx he hg hw hl hv kk
  case dup_x1 => exact fj_g_dup_x1 Fx he hg hw hl hv kk
  case goto => exact fj_g_goto Fx he hg hw hl hv kk
  case ifCond => exact fj_g_ifCond Fx he hg hw hl hv kk
  case if_icmp => exact fj_g_if_icmp Fx he hg hw hl hv kk
  case getfield => exact fj_g_getfield Fx he hg hw hl hv kk
  case putfield => exact fj_g_putfield Fx he hg hw hl hv kk
  case getstatic => exact fj_g_getstatic Fx he hg hw hl hv kk
  case iaload => exact fj_g_iaload Fx he hg hw hl hv kk
  case arraylength => exact fj_g_arraylength Fx he hg hw hl hv kk
  case iastore => exact fj_g_iastore Fx he hg hw hl hv kk
  case aaload => exact fj_g_aaload Fx he hg hw hl hv kk
  case tableswitch => exact fj_g_tableswitch Fx he hg hw hl hv kk
  case lookupswitch => exact fj_g_lookupswitch Fx he hg hw hl hv kk
  case invokestatic i => exact fj_g_invokestatic (hmin i rfl).1 (hmin i rfl).2 Fx he hg hw hl hv kk
  all_goals exact fj_nn hg
end FJG
def fj_cc (k nx : Nat) (ls : fj_L) (k2 : Nat) (q : List fj_V × List fj_V) (M : fj_M) : fj_R ⊕ (fj_C ⊕ (fj_C × (fj_R → fj_C))) := .inr (.inr ((k2, 0, fj_en q.1 (fj_nL k2), [], M), fun r => (k, nx, ls, fj_ps r.1 q.2, r.2)))
theorem fj_dec_inv {X : fj_X} {k pc : Nat} {ls : fj_L} {st : List fj_V} {M : fj_M} {e : fj_I} {E : fj_R ⊕ (fj_C ⊕ (fj_C × (fj_R → fj_C)))} (he : fj_code k pc = some e) (h : fj_dec X (k, pc, ls, st, M) = some E) :
    (∃ v, e.1 = .ireturn ∧ st = [.inl v] ∧ E = .inl (some v, M) ∧ fj_rt k ≠ 0 ∧ (fj_rt k = 1 ∨ v = 0 ∨ v = 1)) ∨ (e.1 = .return_ ∧ st = [] ∧ E = .inl (none, M) ∧ fj_rt k = 0) ∨
    (∃ i k2 q, e.1 = .invokevirtual i ∧ e.2.2.1 = k2 ∧ fj_cut (fj_na k2) [] st = some q ∧ fj_isr (fj_rk (fj_ow k2)) q.1 = true ∧ q.2.length ≤ 8 ∧ fj_sta k2 = false ∧ q.1.all fj_nX = true ∧ E = fj_cc k e.2.1 ls k2 q M) ∨
    (∃ i k2 q, e.1 = .invokestatic i ∧ (e.2.2.1 = k2 ∧ Nat.beq k2 999 = false) ∧ fj_cut (fj_na k2) [] st = some q ∧ q.2.length ≤ 8 ∧ fj_sta k2 = true ∧ q.1.all fj_nX = true ∧ E = fj_cc k e.2.1 ls k2 q M) ∨
    (∃ d, fj_go X e ls st M = some d ∧ E = .inr (.inl (k, d)) ∧ ∀ i, e.1 = .invokestatic i → e.2.2.1 = 999 ∧ st.length ≤ 10) := by
  unfold fj_dec at h
  simp only [he] at h
  split at h
  · rename_i hi
    split at h
    · rename_i v
      split at h
      · cases h
      · rename_i h1
        have h := fj_sj h
        exact Or.inl ⟨v, hi, rfl, h.symm, by omega, Or.inl h1⟩
      · rename_i h0 h1
        split at h
        · rename_i h2
          have h := fj_sj h
          exact Or.inl ⟨v, hi, rfl, h.symm, h0, Or.inr h2⟩
        · cases h
    · cases h
  · rename_i hi
    split at h
    · split at h
      · rename_i h1
        have h := fj_sj h
        exact Or.inr (Or.inl ⟨hi, rfl, h.symm, h1⟩)
      · cases h
    · cases h
  · rename_i i hi
    split at h
    · rename_i q hq
      split at h
      · rename_i hb
        have h := fj_sj h
        simp only [Bool.and_eq_true, Bool.not_eq_true'] at hb
        exact Or.inr (Or.inr (Or.inl ⟨i, _, q, hi, rfl, hq, hb.1.1.1, Nat.le_of_ble_eq_true hb.1.1.2, hb.1.2, hb.2, h.symm⟩))
      · cases h
    · cases h
  · rename_i i hi
    split at h
    · rename_i hk9
      split at h
      · rename_i q hq
        split at h
        · rename_i hb
          have h := fj_sj h
          simp only [Bool.and_eq_true] at hb
          exact Or.inr (Or.inr (Or.inr (Or.inl ⟨i, _, q, hi, ⟨rfl, hk9⟩, hq, Nat.le_of_ble_eq_true hb.1.1, hb.1.2, hb.2, h.symm⟩)))
        · cases h
      · cases h
    · rename_i hk9
      split at h
      · rename_i d h1 h2
        have h := fj_sj h
        refine Or.inr (Or.inr (Or.inr (Or.inr ⟨d, h2, h.symm, fun j hj => ?_⟩)))
        exact ⟨Nat.eq_of_beq_eq_true hk9, Nat.le_of_ble_eq_true h1⟩
      · cases h
  · rename_i n1 n2 n3 n4
    split at h
    · rename_i d hd
      have h := fj_sj h
      exact Or.inr (Or.inr (Or.inr (Or.inr ⟨d, hd, h.symm, fun j hj => absurd hj (n4 j)⟩)))
    · cases h
/-- the words of a method -/
def fj_wk (k : Nat) : List Cond := .code (fj_y k) (fj_b k) (fj_nL k) (fj_ret k) :: fj_tb
def fj_B (D : va_G) (ad : Nat → Nat → Nat) (cI : ClassId) (cR : Nat → ClassId) (M : fj_M) (sz : Nat) (U : State) : Prop := U.heap.size = sz ∧ va_P D vwCl (fj_ws ad cI cR M) U.heap ∧ va_K D vwCl (fj_ty cI cR) U ∧ va_D (fun _ => True) (fj_ws ad cI cR M) ∧ fj_St ad (va_A (fj_ws ad cI cR M) sz) U U.heap
def fj_Af (D : va_G) (ad : Nat → Nat → Nat) (cI : ClassId) (cR : Nat → ClassId) (A : Nat → Prop) (M : fj_M) (_ : Unit) (t : State) : Prop := va_P D vwCl (fj_ws ad cI cR M) t.heap ∧ va_K D vwCl (fj_ty cI cR) t ∧ va_D A (fj_ws ad cI cR M)
def fj_Q (D : va_G) (ad : Nat → Nat → Nat) (cI : ClassId) (cR : Nat → ClassId) (A : Nat → Prop) (r : fj_R) : Array Value → State → Outcome → State → Prop := match r.1 with
  | some v => va_Qi (fun x (_ : Unit) => x = v) (fj_Af D ad cI cR A r.2) A
  | none => va_Qv (fun (_ : Unit) => True) (fj_Af D ad cI cR A r.2) A
/-- what a run of n steps of the flat machine says of the JVM -/
def fj_Bn (l : Launch) (n : Nat) : Prop := ∀ (X : fj_X) (sc : Prop) (D : va_G) (ad : Nat → Nat → Nat) (cI : ClassId) (cR : Nat → ClassId) (A : Nat → Prop) (p : Program) (e : Env) (R : Room) (s : State) (m : MethodId) (args : Array Value) (below : List Frame) (meth : Method) (c : Code) (k cells slots : Nat) (Q : State → Prop) (pc : Nat) (ls : fj_L) (st : List fj_V) (M : fj_M) (r : fj_R) (H : Heap) (locs : List Loc) (lsA : Array Slot),
  fj_Fix X sc D ad cI cR A p R s m args c k cells slots → fj_ex X n (k, pc, ls, st, M) = some r → fj_Wd D ad cI cR A s M H locs → fj_has ad lsA (fj_nL k) ls → fj_vals sc ls st →
  (∀ (pc' : Nat) (lsA' : Array Slot) (H' : Heap) (locs' : List Loc), fj_Wd D ad cI cR A s r.2 H' locs' → (match r.1 with
    | some v => decode (fj_b k) pc' = .ok (.ireturn, 1) ∧ fj_rt k ≠ 0 ∧ (fj_rt k = 1 ∨ v = 0 ∨ v = 1)
    | none => decode (fj_b k) pc' = .ok (.return_, 1) ∧ fj_rt k = 0) → W p l e R s m args below meth c H' locs' cells slots Q (F0 m pc' lsA' ((fj_ps r.1 []).map (fj_vv ad)))) →
  W p l e R s m args below meth c H locs cells slots Q (F0 m pc lsA (st.map (fj_vv ad)))
set_option maxHeartbeats 1000000 in
theorem fj_A {l : Launch} {n : Nat} (hB : fj_Bn l n) (X : fj_X) (D : va_G) (ad : Nat → Nat → Nat) (cI : ClassId) (cR : Nat → ClassId) (k : Nat) (as : List fj_V) (M : fj_M) (r : fj_R) (sz : Nat) (hex : fj_ex X n (k, 0, fj_en as (fj_nL k), [], M) = some r) (hpl : plainName (fj_y k).cls = true) (hcl : (fj_y k).cls = fj_Rn (fj_ow k)) (hna : as.length ≤ fj_nL k) (hva : ∀ v ∈ as, fj_val False v) :
    Met l (fj_y k) (fj_wk k) (fj_rm k) (va_Pc (as.map (fj_vv ad)) (fj_B D ad cI cR M sz)) (fj_Q D ad cI cR (va_A (fj_ws ad cI cR M) sz) r) 0 0 (va_A (fj_ws ad cI cR M) sz) := by
  refine Met.ofW (cc := fj_b k) (maxL := fj_nL k) (ret := fj_ret k) hpl rfl ?_
  intro p e s m args below meth c s₁ B hml hv
  obtain ⟨rfl, hsz, hP, hK, hD0, hSt⟩ := hv
  subst hsz
  have hts := atoms_spec (ws := fj_wk k) B.pre
  have hown : s.vm.findClass (fj_y k).cls = some m.cls := findClass_of_methodNamed B.named
  rw [hcl] at hown
  have hD := hD0.self (sz := s.heap.size)
  have hr := B.returns
  rw [lg_entry_eq]
  refine hB X False D ad cI cR (va_A (fj_ws ad cI cR M) s.heap.size) p e (fj_rm k) s m _ below meth c k 0 0 _ 0 _ [] M r s.heap [] _ ⟨B.exec, B.bytes, hml, hown, fun w h => hts w (List.mem_cons_of_mem _ h), hK, hSt, fun q h => Or.inr h, fun h => h.elim, ⟨Nat.le_refl _, Nat.le_refl _⟩, ⟨Nat.le_refl _, Nat.le_refl _⟩⟩ hex ⟨hP, hD, va_S.rf⟩ (fj_entry ad as hna) ⟨fun i v hi => hva v (List.mem_of_getElem? (fj_en_at hi)), fun v h => absurd h List.not_mem_nil⟩ ?_
  rintro pc' lsA' H' locs' ⟨hP', hD', hS'⟩ hend
  obtain ⟨rv, M'⟩ := r
  cases rv with
  | none =>
    obtain ⟨hdec, hrt⟩ := hend
    have hr2 : meth.sig.returnType = none := by
      rw [hr]
      unfold fj_ret
      rw [hrt]
      rfl
    exact W.vret B.exec B.bytes hr2 (fun t ht hW => ⟨⟨(), rfl, trivial, by rw [ht]; exact hP', va_K.moved hW.alike hK, hD'⟩, hS'.F ht⟩) hS'.2.2 hdec (hlocks := B.notSynchronized)
  | some v =>
    obtain ⟨hdec, hrt0, hrt⟩ := hend
    by_cases h1 : fj_rt k = 1
    · have hr2 : meth.sig.returnType = some .int := by
        rw [hr]
        unfold fj_ret
        rw [h1]
        rfl
      exact W.iret B.exec B.bytes hr2 (fun t ht hW => ⟨⟨v, (), rfl, rfl, by rw [ht]; exact hP', va_K.moved hW.alike hK, hD'⟩, hS'.F ht⟩) hS'.2.2 hdec (hlocks := B.notSynchronized)
    · have hr2 : meth.sig.returnType = some .boolean := by
        rw [hr]
        unfold fj_ret
        split
        · omega
        · omega
        · rfl
      have hb : narrow .boolean (.int v) = .int v := by
        rcases hrt with h | rfl | rfl
        · exact absurd h h1
        · rfl
        · rfl
      exact W.zret B.exec B.bytes hr2 hb (fun t ht hW => ⟨⟨v, (), rfl, rfl, by rw [ht]; exact hP', va_K.moved hW.alike hK, hD'⟩, hS'.F ht⟩) hS'.2.2 hdec (hlocks := B.notSynchronized)
end
section
/-! CALLS; EVERY RUN OF THE FLAT MACHINE IS ONE OF THE JVM -/
theorem fj_St.there {ad : Nat → Nat → Nat} {A B : Nat → Prop} {s U : State} {H : Heap} {locs : List Loc} (h : fj_St ad A s s.heap) (hS : va_S A s.heap H locs) (hAB : ∀ q, B q → A q) (hU : U.heap = H) (hvm : s.vm.Alike U.vm) : fj_St ad B U U.heap := by
  obtain ⟨h1, h2, h3, h4⟩ := h
  rw [hU]
  exact ⟨((h1.kept hS.2.1).narrow hAB).moved hvm, ((h2.kept hS.2.1).narrow hAB).moved hvm, ((h3.kept hS.2.1).narrow hAB).moved hvm, ((h4.kept hS.2.1).narrow hAB).moved hvm⟩
theorem fj_blind {D : va_G} {ad : Nat → Nat → Nat} {cI : ClassId} {cR : Nat → ClassId} {M : fj_M} {sz : Nat} {av : List Value} : FrameBlind (va_Pc av (fj_B D ad cI cR M sz)) := by
  intro a U g mk q
  obtain ⟨q0, q1, qP, qK, qD, q1', q2', q3', q4'⟩ := q
  have hvm : U.vm.Alike (U.calling g mk a).vm := Vm.Alike.refl U.vm
  exact ⟨q0, q1, qP, va_K.moved (u := U) (U := U.calling g mk a) hvm qK, qD, q1'.moved hvm, q2'.moved hvm, q3'.moved hvm, q4'.moved hvm⟩
theorem fj_rkC {o : Nat} (h : o = 0 ∨ o = 4 ∨ o = 5 ∨ o = 6) : ∃ (n ci : Nat) (T : u_T) (N : Nat), fj_lk (fj_rk o) fj_K = some (n, 0, ci, N) ∧ vwCl[ci]? = some (fj_Rn o, T, N) := by
  rcases h with rfl | rfl | rfl | rfl
  · exact ⟨6, 0, TX0, 3, rfl, rfl⟩
  · exact ⟨12, 1, TX4, 12, rfl, rfl⟩
  · exact ⟨1, 2, TX5, 14, rfl, rfl⟩
  · exact ⟨1, 3, TX6, 28, rfl, rfl⟩
theorem fj_ml_own : ∀ q ∈ fj_ml, fj_sta q.2 = false → fj_ow q.2 = 0 ∨ fj_ow q.2 = 4 ∨ fj_ow q.2 = 5 ∨ fj_ow q.2 = 6 := by decide +kernel
theorem fj_mlC_of {q : Nat × Nat} (h : q ∈ fj_ml) : ((fj_y q.2).cls ≠ "java/lang/invoke/MethodHandle" ∧ (fj_y q.2).cls ≠ "java/lang/invoke/VarHandle") ∧ ((parseMethodDescriptor (fj_y q.2).desc).map (fun d => d.parameters.length) = some (bif fj_sta q.2 then fj_na q.2 else fj_na q.2 - 1)) ∧ plainName (fj_y q.2).cls = true ∧ fj_na q.2 ≤ fj_nL q.2 ∧ (fj_y q.2).cls = fj_Rn (fj_ow q.2) ∧ q.2 < 123 := by
  have h1 := List.all_eq_true.mp fj_mlC_ok q h
  simp only [fj_mlC, Bool.and_eq_true, decide_eq_true_eq] at h1
  obtain ⟨⟨⟨⟨⟨⟨a1, a2⟩, a3⟩, a4⟩, a5⟩, a6⟩, a7⟩ := h1
  exact ⟨⟨a1, a2⟩, a3, a4, a5, a6, a7⟩
theorem fj_val_no {sc : Prop} {as : List fj_V} (h : ∀ v ∈ as, fj_val sc v) (hn : as.all fj_nX = true) : ∀ v ∈ as, fj_val False v := by
  intro v hv
  have h1 := h v hv
  have h2 := List.all_eq_true.mp hn v hv
  cases v with
  | inl x => trivial
  | inr r =>
    rcases h1 with h1 | h1 | h1 | ⟨h1, -⟩
    · exact Or.inl h1
    · exact Or.inr (Or.inl h1)
    · exact Or.inr (Or.inr (Or.inl h1))
    · subst h1
      cases h2
section FJS
variable {X : fj_X} {sc : Prop} {D : va_G} {ad : Nat → Nat → Nat} {cI : ClassId} {cR : Nat → ClassId} {A : Nat → Prop} {p : Program} {l : Launch} {e : Env} {R : Room} {s : State} {m : MethodId} {args : Array Value} {below : List Frame} {meth : Method} {c : Code} {k cells slots : Nat} {Q : State → Prop}
variable {pc nx tg : Nat} {sw : List (Int32 × Nat)} {ls : fj_L} {st : List fj_V} {M : fj_M} {H : Heap} {locs : List Loc} {lsA : Array Slot}
set_option maxHeartbeats 1000000 in
theorem fj_callV {n i k2 : Nat} {q : List fj_V × List fj_V} {r1 : fj_R} (hB : fj_Bn l n) (Fx : fj_Fix X sc D ad cI cR A p R s m args c k cells slots) (he : fj_code k pc = some (.invokevirtual i, nx, k2, sw)) (hcut : fj_cut (fj_na k2) [] st = some q) (hisr : fj_isr (fj_rk (fj_ow k2)) q.1 = true) (h8 : q.2.length ≤ 8) (hsta : fj_sta k2 = false) (hnX : q.1.all fj_nX = true) (hex : fj_ex X n (k2, 0, fj_en q.1 (fj_nL k2), [], M) = some r1) (hw : fj_Wd D ad cI cR A s M H locs) (hl : fj_has ad lsA (fj_nL k) ls) (hv : fj_vals sc ls st)
    (kk : ∀ (H' : Heap) (locs' : List Loc), fj_Wd D ad cI cR A s r1.2 H' locs' → W p l e R s m args below meth c H' locs' cells slots Q (F0 m nx lsA ((fj_ps r1.1 q.2).map (fj_vv ad)))) : W p l e R s m args below meth c H locs cells slots Q (F0 m pc lsA (st.map (fj_vv ad))) := by
  obtain ⟨hx, hb, hml, hown, hts, hK, hSt, hA, hsc, hR, hcs⟩ := Fx
  obtain ⟨hP, hD, hS⟩ := hw
  obtain ⟨hdec, hnx⟩ := fj_dc he rfl
  replace hnx : nx = pc + 3 := hnx
  subst hnx
  have hok := fj_dx he
  simp only [fj_okx, Bool.and_eq_true, decide_eq_true_eq] at hok
  obtain ⟨⟨⟨hi, hlk⟩, hfr⟩, hlc⟩ := hok
  have hmem := fj_lk_mem hlk
  obtain ⟨hne, hpar, hpl, hnaL, hcl, h123⟩ := fj_mlC_of hmem
  obtain ⟨hst, hlen⟩ := fj_cut_st hcut
  obtain ⟨hw1, hw2, hw3⟩ := fj_mws _ hmem
  simp only [hsta] at hw3 hpar hne hpl hnaL hcl h123
  rw [(fj_div (o := fj_ow k) hi).1, (fj_div (o := fj_ow k) hi).2] at hw1
  obtain ⟨as, rest⟩ := q
  rcases as with _ | ⟨x | ⟨κ, a⟩, as⟩
  · cases hisr
  · cases hisr
  have hκ : κ = fj_rk (fj_ow k2) := Nat.eq_of_beq_eq_true hisr
  subst hκ
  have hvs : ∀ v ∈ (.inr (fj_rk (fj_ow k2), a) :: as : List fj_V), fj_val sc v := fun v hv1 => hv.2 v (by rw [hst]; exact List.mem_append_left _ (List.mem_reverse.mpr hv1))
  have hFc : ∀ q, va_A (fj_ws ad cI cR M) H.size q → A q := by
    intro q h
    rcases h with ⟨k1, e1, h⟩ | h
    · exact hD.2 k1 _ h
    · exact hA q (Nat.le_trans hS.1 h)
  have hM := fj_A hB X D ad cI cR k2 _ M r1 H.size hex hpl hcl (by rw [hlen]; exact hnaL) (fj_val_no hvs hnX)
  obtain ⟨n0, ci, T0, N0, hk1, hk2⟩ := fj_rkC (fj_ml_own _ hmem hsta)
  obtain ⟨p0, hp⟩ := fj_cell_at hk1 (fj_val_in (hvs _ List.mem_cons_self) hk1)
  have hws := fj_ws_at (ad := ad) (cI := cI) (cR := cR) (M := M) hp
  rw [fj_E_obj hk1] at hws
  have hT : GoodIn fj_tb (wsV (fj_Rn (fj_ow k)) i (fj_Rn (fj_ow k2)) (fj_y k2) (fj_wk k2)) := by
    intro w hw
    refine fj_tb_good w ?_
    rcases List.mem_append.mp hw with h | h
    · rcases List.mem_cons.mp h with rfl | h
      · exact hw1
      rcases List.mem_cons.mp h with rfl | h
      · exact hw3.1
      rcases List.mem_cons.mp h with rfl | h
      · rw [← hcl]; exact hw3.2
      rcases List.mem_cons.mp h with rfl | h
      · rw [← hcl]; exact hw2
      · exact absurd h List.not_mem_nil
    · rcases List.mem_cons.mp h with rfl | h
      · exact fj_cw k2 h123
      · exact h
  have hpre : PreV s H (fj_Rn (fj_ow k2)) (ad (fj_rk (fj_ow k2)) a) (va_Pc ((.inr (fj_rk (fj_ow k2), a) :: as : List fj_V).map (fj_vv ad)) (fj_B D ad cI cR M H.size)) (as.map (fj_vv ad)) :=
    ⟨fj_blind, va_recv hK hP hk2 hws, fun U hU hW => ⟨rfl, by rw [hU], by rw [hU]; exact hP, va_K.moved hW.alike hK, hD.weaken (fun _ _ _ _ => trivial), hSt.there hS hFc hU hW.alike⟩⟩
  have hrun := va_runV (p := p) (l := l) (e := e) (R := R) (m := m) (below := below) (meth := meth) (c := c) (locs := locs) (cells := cells) (slots := slots) (g := F0 m pc lsA (st.map (fj_vv ad))) (rest := rest.map (fj_vv ad)) (nL := fj_nL k) ⟨hx, hb, hml, hown, hts⟩ hM (cwV as.length hts hT rfl rfl rfl ⟨hcl, hne.1, hne.2, by rw [hpar]; have := hlen; simp only [List.length_cons] at this; rw [← this]; rfl⟩ ⟨Nat.le_trans hfr hR.1, Nat.le_trans hlc hR.2⟩) hpre rfl (by rw [List.length_map]) hl.1 (by
    show st.map (fj_vv ad) = _
    rw [hst]
    simp [fj_vv]) (lv_room (by rw [fj_catsum]; exact h8)) hdec ⟨hcs.1, hcs.2⟩
  obtain ⟨rv, M1⟩ := r1
  cases rv with
  | some v =>
    refine va_calli (a := #[]) hrun hS (fun q _ h => hFc q h) hFc (fun r u t H1 locs1 ht hvm hw hBt hz1 hk1 hS1 => ?_)
    have hw : r = v := hw
    subst hw
    exact kk H1 locs1 ⟨by rw [← ht]; exact hBt.1, hBt.2.2.weaken (fun k q _ h => hFc q.1 h), hS1⟩
  | none =>
    refine va_callv (a := #[]) hrun hS (fun q _ h => hFc q h) hFc (fun u t H1 locs1 ht hvm hw hBt hz1 hk1 hS1 => ?_)
    exact kk H1 locs1 ⟨by rw [← ht]; exact hBt.1, hBt.2.2.weaken (fun k q _ h => hFc q.1 h), hS1⟩
set_option maxHeartbeats 1000000 in
theorem fj_callS {n i k2 : Nat} {q : List fj_V × List fj_V} {r1 : fj_R} (hB : fj_Bn l n) (Fx : fj_Fix X sc D ad cI cR A p R s m args c k cells slots) (he : fj_code k pc = some (.invokestatic i, nx, k2, sw)) (h999 : Nat.beq k2 999 = false) (hcut : fj_cut (fj_na k2) [] st = some q) (h8 : q.2.length ≤ 8) (hsta : fj_sta k2 = true) (hnX : q.1.all fj_nX = true) (hex : fj_ex X n (k2, 0, fj_en q.1 (fj_nL k2), [], M) = some r1) (hw : fj_Wd D ad cI cR A s M H locs) (hl : fj_has ad lsA (fj_nL k) ls) (hv : fj_vals sc ls st)
    (kk : ∀ (H' : Heap) (locs' : List Loc), fj_Wd D ad cI cR A s r1.2 H' locs' → W p l e R s m args below meth c H' locs' cells slots Q (F0 m nx lsA ((fj_ps r1.1 q.2).map (fj_vv ad)))) : W p l e R s m args below meth c H locs cells slots Q (F0 m pc lsA (st.map (fj_vv ad))) := by
  obtain ⟨hx, hb, hml, hown, hts, hK, hSt, hA, hsc, hR, hcs⟩ := Fx
  obtain ⟨hP, hD, hS⟩ := hw
  obtain ⟨hdec, hnx⟩ := fj_dc he rfl
  replace hnx : nx = pc + 3 := hnx
  subst hnx
  have hok := fj_dx he
  simp only [fj_okx, h999, cond_false, Bool.and_eq_true, decide_eq_true_eq] at hok
  obtain ⟨hi, ⟨hlk, hfr⟩, hlc⟩ := hok
  have hmem := fj_lk_mem hlk
  obtain ⟨hne, hpar, hpl, hnaL, hcl, h123⟩ := fj_mlC_of hmem
  obtain ⟨hst, hlen⟩ := fj_cut_st hcut
  obtain ⟨hw1, hw2, hw3⟩ := fj_mws _ hmem
  simp only [hsta] at hw3 hpar hne hpl hnaL hcl h123
  rw [(fj_div (o := fj_ow k) hi).1, (fj_div (o := fj_ow k) hi).2] at hw1
  obtain ⟨as, rest⟩ := q
  have hvs : ∀ v ∈ as, fj_val sc v := fun v hv1 => hv.2 v (by rw [hst]; exact List.mem_append_left _ (List.mem_reverse.mpr hv1))
  have hFc : ∀ q, va_A (fj_ws ad cI cR M) H.size q → A q := by
    intro q h
    rcases h with ⟨k1, e1, h⟩ | h
    · exact hD.2 k1 _ h
    · exact hA q (Nat.le_trans hS.1 h)
  have hM := fj_A hB X D ad cI cR k2 _ M r1 H.size hex hpl hcl (by rw [hlen]; exact hnaL) (fj_val_no hvs hnX)
  have hT : GoodIn fj_tb (va_wsS (fj_Rn (fj_ow k)) i (fj_y k2) (fj_wk k2)) := by
    intro w hw
    refine fj_tb_good w ?_
    rcases List.mem_append.mp hw with h | h
    · rcases List.mem_cons.mp h with rfl | h
      · exact hw1
      rcases List.mem_cons.mp h with rfl | h
      · exact hw3
      rcases List.mem_cons.mp h with rfl | h
      · exact hw2
      · exact absurd h List.not_mem_nil
    · rcases List.mem_cons.mp h with rfl | h
      · exact fj_cw k2 h123
      · exact h
  have hpre : PreS s H (va_Pc (as.map (fj_vv ad)) (fj_B D ad cI cR M H.size)) (as.map (fj_vv ad)) :=
    ⟨fj_blind, fun U hU hW => ⟨rfl, by rw [hU], by rw [hU]; exact hP, va_K.moved hW.alike hK, hD.weaken (fun _ _ _ _ => trivial), hSt.there hS hFc hU hW.alike⟩⟩
  have hrun := va_runS (p := p) (l := l) (e := e) (R := R) (m := m) (below := below) (meth := meth) (c := c) (locs := locs) (cells := cells) (slots := slots) (g := F0 m pc lsA (st.map (fj_vv ad))) (rest := rest.map (fj_vv ad)) (nL := fj_nL k) ⟨hx, hb, hml, hown, hts⟩ hM (va_cwS as.length hts hT rfl rfl rfl ⟨hne.1, hne.2, by rw [hpar]; have := hlen; rw [← this]; rfl⟩ ⟨Nat.le_trans hfr hR.1, Nat.le_trans hlc hR.2⟩) hpre rfl (by rw [List.length_map]) hl.1 (by
    show st.map (fj_vv ad) = _
    rw [hst]
    simp) (lv_room (by rw [fj_catsum]; exact h8)) hdec ⟨hcs.1, hcs.2⟩
  obtain ⟨rv, M1⟩ := r1
  cases rv with
  | some v =>
    refine va_calli (a := #[]) hrun hS (fun q _ h => hFc q h) hFc (fun r u t H1 locs1 ht hvm hw hBt hz1 hk1 hS1 => ?_)
    have hw : r = v := hw
    subst hw
    exact kk H1 locs1 ⟨by rw [← ht]; exact hBt.1, hBt.2.2.weaken (fun k q _ h => hFc q.1 h), hS1⟩
  | none =>
    refine va_callv (a := #[]) hrun hS (fun q _ h => hFc q h) hFc (fun u t H1 locs1 ht hvm hw hBt hz1 hk1 hS1 => ?_)
    exact kk H1 locs1 ⟨by rw [← ht]; exact hBt.1, hBt.2.2.weaken (fun k q _ h => hFc q.1 h), hS1⟩
end FJS
theorem fj_ps_val {sc : Prop} {r : Option Int32} {st : List fj_V} (h : ∀ v ∈ st, fj_val sc v) : ∀ v ∈ fj_ps r st, fj_val sc v := by
  cases r with
  | none => exact h
  | some x => exact List.forall_mem_cons.mpr ⟨trivial, h⟩
theorem fj_allB (l : Launch) : ∀ n, fj_Bn l n := by
  intro n
  induction n with
  | zero =>
    intro X sc D ad cI cR A p e R s m args below meth c k cells slots Q pc ls st M r H locs lsA Fx hex
    cases hex
  | succ n ih =>
    intro X sc D ad cI cR A p e R s m args below meth c k cells slots Q pc ls st M r H locs lsA Fx hex hw hl hv hend
    rw [fj_ex] at hex
    cases hc : fj_code k pc with
    | none =>
      have h0 : fj_dec X (k, pc, ls, st, M) = none := by
        unfold fj_dec
        simp only [hc]
      rw [h0] at hex
      cases hex
    | some e0 =>
      cases hdE : fj_dec X (k, pc, ls, st, M) with
      | none => rw [hdE] at hex; cases hex
      | some E =>
        rw [hdE] at hex
        rcases fj_dec_inv hc hdE with ⟨v, h1, h2, h3, h4, h5⟩ | ⟨h1, h2, h3, h4⟩ | ⟨i, k2, q, h1, h2, h3, h4, h5, h6, h7, h8⟩ | ⟨i, k2, q, h1, h2, h3, h5, h6, h7, h8⟩ | ⟨d, h1, h2, h3⟩
        · subst h3
          have hr := fj_sj hex
          subst hr
          rw [h2]
          have hd := (fj_dc hc (by rw [h1]; rfl)).1
          rw [h1] at hd
          exact hend pc lsA H locs hw ⟨hd, h4, h5⟩
        · subst h3
          have hr := fj_sj hex
          subst hr
          rw [h2]
          have hd := (fj_dc hc (by rw [h1]; rfl)).1
          rw [h1] at hd
          exact hend pc lsA H locs hw ⟨hd, h4⟩
        · subst h8
          obtain ⟨ins, nx, tg, sw⟩ := e0
          have h1 : ins = .invokevirtual i := h1
          subst h1
          have h2 : k2 = tg := Eq.symm h2
          subst h2
          simp only [fj_cc] at hex
          cases hx1 : fj_ex X n (k2, 0, fj_en q.1 (fj_nL k2), [], M) with
          | none => rw [hx1] at hex; cases hex
          | some r1 =>
            rw [hx1] at hex
            refine fj_callV ih Fx hc h3 h4 h5 h6 h7 hx1 hw hl hv (fun H' locs' hw' => ?_)
            exact ih X sc D ad cI cR A p e R s m args below meth c k cells slots Q nx ls (fj_ps r1.1 q.2) r1.2 r H' locs' lsA Fx hex hw' hl ⟨hv.1, fj_ps_val (fun v h => hv.2 v (by rw [(fj_cut_st h3).1]; exact List.mem_append_right _ h))⟩ hend
        · subst h8
          obtain ⟨ins, nx, tg, sw⟩ := e0
          have h1 : ins = .invokestatic i := h1
          subst h1
          obtain ⟨h2, h29⟩ := h2
          have h2 : k2 = tg := Eq.symm h2
          subst h2
          simp only [fj_cc] at hex
          cases hx1 : fj_ex X n (k2, 0, fj_en q.1 (fj_nL k2), [], M) with
          | none => rw [hx1] at hex; cases hex
          | some r1 =>
            rw [hx1] at hex
            refine fj_callS ih Fx hc h29 h3 h5 h6 h7 hx1 hw hl hv (fun H' locs' hw' => ?_)
            exact ih X sc D ad cI cR A p e R s m args below meth c k cells slots Q nx ls (fj_ps r1.1 q.2) r1.2 r H' locs' lsA Fx hex hw' hl ⟨hv.1, fj_ps_val (fun v h => hv.2 v (by rw [(fj_cut_st h3).1]; exact List.mem_append_right _ h))⟩ hend
        · subst h2
          exact fj_goW Fx hc h1 h3 hw hl hv (fun H' locs' lsA' hw' hl' hv' => ih X sc D ad cI cR A p e R s m args below meth c k cells slots Q d.1 d.2.1 d.2.2.1 d.2.2.2 r H' locs' lsA' Fx hex hw' hl' hv' hend)
end
section
/-! ROWS OF THE FLAT MACHINE -/
def fj_run (X : fj_X) : Nat → fj_C → Option fj_C
  | 0, c => some c
  | n + 1, c => match fj_dec X c with
    | some (.inr (.inl d)) => fj_run X n d
    | _ => none
theorem fj_blk {X : fj_X} {c : fj_C} {r : fj_R} (n : Nat) (d : fj_C) (h : fj_run X n c = some d) (k : fj_ev X d r) : fj_ev X c r := by
  induction n generalizing c with
  | zero =>
    cases h
    exact k
  | succ n ih =>
    unfold fj_run at h
    split at h
    · rename_i d1 hd
      exact fj_nx hd (ih h)
    · cases h
section FJR
variable {X : fj_X} {k pc nx tg κ a n t f : Nat} {sw : List (Int32 × Nat)} {ls : fj_L} {st : List fj_V} {M : fj_M} {r : fj_R} {x y v : Int32} {c : fj_C} {b : Bool}
theorem fj_bt (h : fj_dec X c = some (.inr (.inl (k, (bif b then t else f), ls, st, M)))) (hb : b = true) (kk : fj_ev X (k, t, ls, st, M) r) : fj_ev X c r := by
  subst hb
  exact fj_nx h kk
theorem fj_bf (h : fj_dec X c = some (.inr (.inl (k, (bif b then t else f), ls, st, M)))) (hb : b = false) (kk : fj_ev X (k, f, ls, st, M) r) : fj_ev X c r := by
  subst hb
  exact fj_nx h kk
theorem fj_nt {P : Prop} {i : Decidable P} (h : ¬ P) : (!@decide P i) = true := by simp [h]
theorem fj_nf {P : Prop} {i : Decidable P} (h : P) : (!@decide P i) = false := by simp [h]
theorem fj_swg {d : Nat} (h : fj_dec X c = some (.inr (.inl (k, fj_sw d sw x, ls, st, M)))) (hb : fj_sw d sw x = t) (kk : fj_ev X (k, t, ls, st, M) r) : fj_ev X c r := by
  subst hb
  exact fj_nx h kk
theorem fj_ald (hc : fj_code k pc = some (.iaload, nx, tg, sw)) (hn : fj_ln X κ = some n) (hin : ¬ (x < 0 ∨ n ≤ x.toNatClampNeg)) (kk : fj_ev X (k, nx, ls, .inl (fj_gt X M κ a x.toNatClampNeg) :: st, M) r) : fj_ev X (k, pc, ls, .inl x :: .inr (κ, a) :: st, M) r := by
  refine fj_nx ?_ kk
  unfold fj_dec
  simp only [hc]
  unfold fj_go
  simp only [hn, if_neg hin]
theorem fj_ast {u1 u2 : Nat} (hc : fj_code k pc = some (.iastore, nx, tg, sw)) (hn : fj_lk κ fj_K = some (u1, 1, n, u2)) (hin : ¬ (x < 0 ∨ n ≤ x.toNatClampNeg)) (kk : fj_ev X (k, nx, ls, st, fj_up M κ a x.toNatClampNeg v) r) : fj_ev X (k, pc, ls, .inl v :: .inl x :: .inr (κ, a) :: st, M) r := by
  refine fj_nx ?_ kk
  unfold fj_dec
  simp only [hc]
  unfold fj_go
  simp only [hn, if_neg hin]
theorem fj_aal {u1 u2 : Nat} (hc : fj_code k pc = some (.aaload, nx, tg, sw)) (hn : fj_lk κ fj_K = some (u1, 2, n, u2)) (hin : ¬ (x < 0 ∨ n ≤ x.toNatClampNeg)) (kk : fj_ev X (k, nx, ls, .inr (u2, x.toNatClampNeg) :: st, M) r) : fj_ev X (k, pc, ls, .inl x :: .inr (κ, a) :: st, M) r := by
  refine fj_nx ?_ kk
  unfold fj_dec
  simp only [hc]
  unfold fj_go
  simp only [hn, if_neg hin]
theorem fj_idv (hc : fj_code k pc = some (.idiv, nx, tg, sw)) (hy : ¬ y = 0) (kk : fj_ev X (k, nx, ls, .inl (x / y) :: st, M) r) : fj_ev X (k, pc, ls, .inl y :: .inl x :: st, M) r := by
  refine fj_nx ?_ kk
  unfold fj_dec
  simp only [hc]
  unfold fj_go
  simp only [if_neg hy]
theorem fj_irm (hc : fj_code k pc = some (.irem, nx, tg, sw)) (hy : ¬ y = 0) (kk : fj_ev X (k, nx, ls, .inl (x - x / y * y) :: st, M) r) : fj_ev X (k, pc, ls, .inl y :: .inl x :: st, M) r := by
  refine fj_nx ?_ kk
  unfold fj_dec
  simp only [hc]
  unfold fj_go
  simp only [if_neg hy]
theorem fj_ri (hc : fj_code k pc = some (.ireturn, nx, tg, sw)) (hr : fj_rt k = 1) : fj_ev X (k, pc, ls, [.inl v], M) (some v, M) := by
  refine fj_end ?_
  unfold fj_dec
  simp only [hc, hr]
theorem fj_rz (hc : fj_code k pc = some (.ireturn, nx, tg, sw)) (hr : fj_rt k = 2) (hv : v = 0 ∨ v = 1) : fj_ev X (k, pc, ls, [.inl v], M) (some v, M) := by
  refine fj_end ?_
  unfold fj_dec
  simp only [hc, hr, if_pos hv]
theorem fj_rv (hc : fj_code k pc = some (.return_, nx, tg, sw)) (hr : fj_rt k = 0) : fj_ev X (k, pc, ls, [], M) (none, M) := by
  refine fj_end ?_
  unfold fj_dec
  simp only [hc, hr]
end FJR
end
section
set_option maxRecDepth 40000
set_option maxHeartbeats 20000 in
theorem tt1 (X : fj_X) (a0 : Nat) (a1 : Int32) (M : fj_M) : fj_run X 1 (0, 0, [some (.inr (10, a0)), some (.inl a1)], [], M) = some (0, 1, [some (.inr (10, a0)), some (.inl a1)], [.inr (10, a0)], M) := rfl
set_option maxHeartbeats 20000 in
theorem tt2 (X : fj_X) (a0 : Nat) (a1 : Int32) (M : fj_M) : fj_run X 1 (0, 1, [some (.inr (10, a0)), some (.inl a1)], [.inr (10, a0)], M) = some (0, 4, [some (.inr (10, a0)), some (.inl a1)], [.inl (M.1 10 a0 1)], M) := rfl
set_option maxHeartbeats 20000 in
theorem tt3 (X : fj_X) (a0 : Nat) (a1 : Int32) (M : fj_M) : fj_run X 1 (0, 4, [some (.inr (10, a0)), some (.inl a1)], [.inl (M.1 10 a0 1)], M) = some (0, 6, [some (.inr (10, a0)), some (.inl a1)], [.inl 8, .inl (M.1 10 a0 1)], M) := rfl
set_option maxHeartbeats 20000 in
theorem tt4  : (Int8.ofInt 8).toInt32 = 8 := rfl
set_option maxHeartbeats 20000 in
theorem tt5  : fj_lk (0 * 1000 + 19) fj_fl = some (10, 1) := rfl
end
