/-! THE CONSTRUCTORS: words, and what each instruction is -/
set_option maxRecDepth 40000 in
theorem sw_oi : Cond.instanceMethod objectInit ∈ fj_tb := fj_in 64 rfl rfl
set_option maxRecDepth 40000 in
theorem sw_oc : Cond.code objectInit ⟨#[0xb1]⟩ 1 none ∈ fj_tb := fj_in 65 rfl rfl
set_option maxRecDepth 40000 in
theorem sw_ar : Cond.arrayClass .int ∈ fj_tb := fj_in 122 rfl rfl
set_option maxRecDepth 40000 in
theorem sw_ml_X0 : Cond.methodLink RX0 3 objectInit ∈ fj_tb := fj_in 127 rfl rfl
set_option maxRecDepth 40000 in
theorem sw_ml_X4 : Cond.methodLink RX4 3 objectInit ∈ fj_tb := fj_in 74 rfl rfl
set_option maxRecDepth 40000 in
theorem sw_ml_X5 : Cond.methodLink RX5 1 objectInit ∈ fj_tb := fj_in 63 rfl rfl
set_option maxRecDepth 40000 in
theorem sw_ml_X6 : Cond.methodLink RX6 1 objectInit ∈ fj_tb := fj_in 496 rfl rfl
set_option maxRecDepth 40000 in
theorem sw_im_X0 : Cond.instanceMethod yX0_init ∈ fj_tb := fj_in 125 rfl rfl
set_option maxRecDepth 40000 in
theorem sw_cd_X0 : Cond.code yX0_init cX0_init 1 none ∈ fj_tb := fj_in 126 rfl rfl
set_option maxRecDepth 40000 in
theorem sw_in_X0 : Cond.initialized RX0 ∈ fj_tb := fj_in 54 rfl rfl
set_option maxRecDepth 40000 in
theorem sw_it_X0 : Cond.instantiable RX0 3 ∈ fj_tb := fj_in 123 rfl rfl
set_option maxRecDepth 40000 in
theorem sw_im_X4 : Cond.instanceMethod yX4_init ∈ fj_tb := fj_in 72 rfl rfl
set_option maxRecDepth 40000 in
theorem sw_cd_X4 : Cond.code yX4_init cX4_init 1 none ∈ fj_tb := fj_in 73 rfl rfl
set_option maxRecDepth 40000 in
theorem sw_in_X4 : Cond.initialized RX4 ∈ fj_tb := fj_in 53 rfl rfl
set_option maxRecDepth 40000 in
theorem sw_it_X4 : Cond.instantiable RX4 12 ∈ fj_tb := fj_in 70 rfl rfl
set_option maxRecDepth 40000 in
theorem sw_im_X5 : Cond.instanceMethod yX5_init ∈ fj_tb := fj_in 61 rfl rfl
set_option maxRecDepth 40000 in
theorem sw_cd_X5 : Cond.code yX5_init cX5_init 2 none ∈ fj_tb := fj_in 62 rfl rfl
set_option maxRecDepth 40000 in
theorem sw_in_X5 : Cond.initialized RX5 ∈ fj_tb := fj_in 52 rfl rfl
set_option maxRecDepth 40000 in
theorem sw_it_X5 : Cond.instantiable RX5 14 ∈ fj_tb := fj_in 59 rfl rfl
set_option maxRecDepth 40000 in
theorem sw_im_X6 : Cond.instanceMethod yX6_init ∈ fj_tb := fj_in 494 rfl rfl
set_option maxRecDepth 40000 in
theorem sw_cd_X6 : Cond.code yX6_init cX6_init 2 none ∈ fj_tb := fj_in 495 rfl rfl
set_option maxRecDepth 40000 in
theorem sw_in_X6 : Cond.initialized RX6 ∈ fj_tb := fj_in 55 rfl rfl
set_option maxRecDepth 40000 in
theorem sw_it_X6 : Cond.instantiable RX6 28 ∈ fj_tb := fj_in 492 rfl rfl
set_option maxRecDepth 40000 in
theorem sw_cl_19 : Cond.classLink RX5 19 RX4 ∈ fj_tb := fj_in 66 rfl rfl
set_option maxRecDepth 40000 in
theorem sw_cl_25 : Cond.classLink RX5 25 RX0 ∈ fj_tb := fj_in 68 rfl rfl
set_option maxRecDepth 40000 in
theorem sw_cl_L7 : Cond.classLink RL 7 RX5 ∈ fj_tb := fj_in 58 rfl rfl
set_option maxRecDepth 40000 in
theorem sw_cl_L10 : Cond.classLink RL 10 RX6 ∈ fj_tb := fj_in 491 rfl rfl
set_option maxRecDepth 40000 in
theorem sw_ml_L9 : Cond.methodLink RL 9 yX5_init ∈ fj_tb := fj_in 60 rfl rfl
set_option maxRecDepth 40000 in
theorem sw_ml_L12 : Cond.methodLink RL 12 yX6_init ∈ fj_tb := fj_in 493 rfl rfl
set_option maxRecDepth 40000 in
theorem sw_fl_X0_9 : Cond.fieldLink RX0 9 "TurnTasks$Channel" "ints" "[I" ∈ fj_tb := fj_in 128 rfl rfl
set_option maxRecDepth 40000 in
theorem sw_fl_X0_15 : Cond.fieldLink RX0 15 "TurnTasks$Channel" "size" "I" ∈ fj_tb := fj_in 132 rfl rfl
set_option maxRecDepth 40000 in
theorem sw_fl_X4_9 : Cond.fieldLink RX4 9 "TurnTasks$Task" "stack" "[I" ∈ fj_tb := fj_in 75 rfl rfl
set_option maxRecDepth 40000 in
theorem sw_fl_X4_15 : Cond.fieldLink RX4 15 "TurnTasks$Task" "returns" "[I" ∈ fj_tb := fj_in 77 rfl rfl
set_option maxRecDepth 40000 in
theorem sw_fl_X4_20 : Cond.fieldLink RX4 20 "TurnTasks$Task" "state" "I" ∈ fj_tb := fj_in 78 rfl rfl
set_option maxRecDepth 40000 in
theorem sw_fl_X4_24 : Cond.fieldLink RX4 24 "TurnTasks$Task" "trap" "I" ∈ fj_tb := fj_in 86 rfl rfl
set_option maxRecDepth 40000 in
theorem sw_fl_X5_9 : Cond.fieldLink RX5 9 "TurnTasks" "code" "[I" ∈ fj_tb := fj_in 141 rfl rfl
set_option maxRecDepth 40000 in
theorem sw_fl_X5_13 : Cond.fieldLink RX5 13 "TurnTasks" "memory" "[I" ∈ fj_tb := fj_in 142 rfl rfl
set_option maxRecDepth 40000 in
theorem sw_fl_X5_16 : Cond.fieldLink RX5 16 "TurnTasks" "record" "[I" ∈ fj_tb := fj_in 143 rfl rfl
set_option maxRecDepth 40000 in
theorem sw_fl_X5_21 : Cond.fieldLink RX5 21 "TurnTasks" "tasks" "[LTurnTasks$Task;" ∈ fj_tb := fj_in 144 rfl rfl
set_option maxRecDepth 40000 in
theorem sw_fl_X5_27 : Cond.fieldLink RX5 27 "TurnTasks" "channels" "[LTurnTasks$Channel;" ∈ fj_tb := fj_in 145 rfl rfl
set_option maxRecDepth 40000 in
theorem sw_fl_X5_31 : Cond.fieldLink RX5 31 "TurnTasks" "fallen" "[I" ∈ fj_tb := fj_in 146 rfl rfl
set_option maxRecDepth 40000 in
theorem sw_fl_X5_34 : Cond.fieldLink RX5 34 "TurnTasks" "quantum" "I" ∈ fj_tb := fj_in 147 rfl rfl
set_option maxRecDepth 40000 in
theorem sw_fl_X5_38 : Cond.fieldLink RX5 38 "TurnTasks" "latest" "I" ∈ fj_tb := fj_in 148 rfl rfl
set_option maxRecDepth 40000 in
theorem sw_fl_X6_7 : Cond.fieldLink RX6 7 "TurnTasksModel" "code" "[I" ∈ fj_tb := fj_in 497 rfl rfl
set_option maxRecDepth 40000 in
theorem sw_fl_X6_13 : Cond.fieldLink RX6 13 "TurnTasksModel" "memory" "[I" ∈ fj_tb := fj_in 498 rfl rfl
set_option maxRecDepth 40000 in
theorem sw_fl_X6_16 : Cond.fieldLink RX6 16 "TurnTasksModel" "state" "[I" ∈ fj_tb := fj_in 499 rfl rfl
set_option maxRecDepth 40000 in
theorem sw_fl_X6_19 : Cond.fieldLink RX6 19 "TurnTasksModel" "place" "[I" ∈ fj_tb := fj_in 500 rfl rfl
set_option maxRecDepth 40000 in
theorem sw_fl_X6_22 : Cond.fieldLink RX6 22 "TurnTasksModel" "high" "[I" ∈ fj_tb := fj_in 501 rfl rfl
set_option maxRecDepth 40000 in
theorem sw_fl_X6_25 : Cond.fieldLink RX6 25 "TurnTasksModel" "stack" "[I" ∈ fj_tb := fj_in 502 rfl rfl
set_option maxRecDepth 40000 in
theorem sw_fl_X6_28 : Cond.fieldLink RX6 28 "TurnTasksModel" "returns" "[I" ∈ fj_tb := fj_in 503 rfl rfl
set_option maxRecDepth 40000 in
theorem sw_fl_X6_31 : Cond.fieldLink RX6 31 "TurnTasksModel" "back" "[I" ∈ fj_tb := fj_in 504 rfl rfl
set_option maxRecDepth 40000 in
theorem sw_fl_X6_34 : Cond.fieldLink RX6 34 "TurnTasksModel" "trap" "[I" ∈ fj_tb := fj_in 505 rfl rfl
set_option maxRecDepth 40000 in
theorem sw_fl_X6_37 : Cond.fieldLink RX6 37 "TurnTasksModel" "links" "[I" ∈ fj_tb := fj_in 506 rfl rfl
set_option maxRecDepth 40000 in
theorem sw_fl_X6_40 : Cond.fieldLink RX6 40 "TurnTasksModel" "hour" "[I" ∈ fj_tb := fj_in 507 rfl rfl
set_option maxRecDepth 40000 in
theorem sw_fl_X6_43 : Cond.fieldLink RX6 43 "TurnTasksModel" "ended" "[I" ∈ fj_tb := fj_in 508 rfl rfl
set_option maxRecDepth 40000 in
theorem sw_fl_X6_46 : Cond.fieldLink RX6 46 "TurnTasksModel" "first" "[I" ∈ fj_tb := fj_in 509 rfl rfl
set_option maxRecDepth 40000 in
theorem sw_fl_X6_49 : Cond.fieldLink RX6 49 "TurnTasksModel" "second" "[I" ∈ fj_tb := fj_in 510 rfl rfl
set_option maxRecDepth 40000 in
theorem sw_fl_X6_52 : Cond.fieldLink RX6 52 "TurnTasksModel" "room" "[I" ∈ fj_tb := fj_in 511 rfl rfl
set_option maxRecDepth 40000 in
theorem sw_fl_X6_55 : Cond.fieldLink RX6 55 "TurnTasksModel" "held" "[I" ∈ fj_tb := fj_in 512 rfl rfl
set_option maxRecDepth 40000 in
theorem sw_fl_X6_58 : Cond.fieldLink RX6 58 "TurnTasksModel" "channel" "[I" ∈ fj_tb := fj_in 513 rfl rfl
set_option maxRecDepth 40000 in
theorem sw_fl_X6_61 : Cond.fieldLink RX6 61 "TurnTasksModel" "record" "[I" ∈ fj_tb := fj_in 514 rfl rfl
set_option maxRecDepth 40000 in
theorem sw_fl_X6_67 : Cond.fieldLink RX6 67 "TurnTasksModel" "quantum" "I" ∈ fj_tb := fj_in 519 rfl rfl
set_option maxRecDepth 40000 in
theorem sw_fl_X6_71 : Cond.fieldLink RX6 71 "TurnTasksModel" "latest" "I" ∈ fj_tb := fj_in 520 rfl rfl
set_option maxRecDepth 40000 in
theorem sw_fl_X6_64 : Cond.fieldLink RX6 64 "TurnTasksModel" "fallen" "[I" ∈ fj_tb := fj_in 523 rfl rfl
theorem dX0_init_0 : decode cX0_init 0 = .ok (.aload_n 0, 1) := by decide +kernel
theorem dX0_init_1 : decode cX0_init 1 = .ok (.invokespecial 3, 3) := by decide +kernel
theorem dX0_init_4 : decode cX0_init 4 = .ok (.aload_n 0, 1) := by decide +kernel
theorem dX0_init_5 : decode cX0_init 5 = .ok (.bipush 8, 2) := by decide +kernel
theorem dX0_init_7 : decode cX0_init 7 = .ok (.newarray .int, 2) := by decide +kernel
theorem dX0_init_9 : decode cX0_init 9 = .ok (.putfield 9, 3) := by decide +kernel
theorem dX0_init_12 : decode cX0_init 12 = .ok (.aload_n 0, 1) := by decide +kernel
theorem dX0_init_13 : decode cX0_init 13 = .ok (.iconst 4, 1) := by decide +kernel
theorem dX0_init_14 : decode cX0_init 14 = .ok (.putfield 15, 3) := by decide +kernel
theorem dX0_init_17 : decode cX0_init 17 = .ok (.return_, 1) := by decide +kernel
theorem dX4_init_0 : decode cX4_init 0 = .ok (.aload_n 0, 1) := by decide +kernel
theorem dX4_init_1 : decode cX4_init 1 = .ok (.invokespecial 3, 3) := by decide +kernel
theorem dX4_init_4 : decode cX4_init 4 = .ok (.aload_n 0, 1) := by decide +kernel
theorem dX4_init_5 : decode cX4_init 5 = .ok (.bipush 24, 2) := by decide +kernel
theorem dX4_init_7 : decode cX4_init 7 = .ok (.newarray .int, 2) := by decide +kernel
theorem dX4_init_9 : decode cX4_init 9 = .ok (.putfield 9, 3) := by decide +kernel
theorem dX4_init_12 : decode cX4_init 12 = .ok (.aload_n 0, 1) := by decide +kernel
theorem dX4_init_13 : decode cX4_init 13 = .ok (.bipush 12, 2) := by decide +kernel
theorem dX4_init_15 : decode cX4_init 15 = .ok (.newarray .int, 2) := by decide +kernel
theorem dX4_init_17 : decode cX4_init 17 = .ok (.putfield 15, 3) := by decide +kernel
theorem dX4_init_20 : decode cX4_init 20 = .ok (.aload_n 0, 1) := by decide +kernel
theorem dX4_init_21 : decode cX4_init 21 = .ok (.iconst 0, 1) := by decide +kernel
theorem dX4_init_22 : decode cX4_init 22 = .ok (.putfield 20, 3) := by decide +kernel
theorem dX4_init_25 : decode cX4_init 25 = .ok (.aload_n 0, 1) := by decide +kernel
theorem dX4_init_26 : decode cX4_init 26 = .ok (.iconst (-1), 1) := by decide +kernel
theorem dX4_init_27 : decode cX4_init 27 = .ok (.putfield 24, 3) := by decide +kernel
theorem dX4_init_30 : decode cX4_init 30 = .ok (.return_, 1) := by decide +kernel
theorem dX5_init_0 : decode cX5_init 0 = .ok (.aload_n 0, 1) := by decide +kernel
theorem dX5_init_1 : decode cX5_init 1 = .ok (.invokespecial 1, 3) := by decide +kernel
theorem dX5_init_4 : decode cX5_init 4 = .ok (.aload_n 0, 1) := by decide +kernel
theorem dX5_init_5 : decode cX5_init 5 = .ok (.sipush 512, 3) := by decide +kernel
theorem dX5_init_8 : decode cX5_init 8 = .ok (.newarray .int, 2) := by decide +kernel
theorem dX5_init_10 : decode cX5_init 10 = .ok (.putfield 9, 3) := by decide +kernel
theorem dX5_init_13 : decode cX5_init 13 = .ok (.aload_n 0, 1) := by decide +kernel
theorem dX5_init_14 : decode cX5_init 14 = .ok (.bipush 64, 2) := by decide +kernel
theorem dX5_init_16 : decode cX5_init 16 = .ok (.newarray .int, 2) := by decide +kernel
theorem dX5_init_18 : decode cX5_init 18 = .ok (.putfield 13, 3) := by decide +kernel
theorem dX5_init_21 : decode cX5_init 21 = .ok (.aload_n 0, 1) := by decide +kernel
theorem dX5_init_22 : decode cX5_init 22 = .ok (.sipush 300, 3) := by decide +kernel
theorem dX5_init_25 : decode cX5_init 25 = .ok (.newarray .int, 2) := by decide +kernel
theorem dX5_init_27 : decode cX5_init 27 = .ok (.putfield 16, 3) := by decide +kernel
theorem dX5_init_30 : decode cX5_init 30 = .ok (.aload_n 0, 1) := by decide +kernel
theorem dX5_init_31 : decode cX5_init 31 = .ok (.bipush 12, 2) := by decide +kernel
theorem dX5_init_33 : decode cX5_init 33 = .ok (.anewarray 19, 3) := by decide +kernel
theorem dX5_init_36 : decode cX5_init 36 = .ok (.putfield 21, 3) := by decide +kernel
theorem dX5_init_39 : decode cX5_init 39 = .ok (.aload_n 0, 1) := by decide +kernel
theorem dX5_init_40 : decode cX5_init 40 = .ok (.bipush 6, 2) := by decide +kernel
theorem dX5_init_42 : decode cX5_init 42 = .ok (.anewarray 25, 3) := by decide +kernel
theorem dX5_init_45 : decode cX5_init 45 = .ok (.putfield 27, 3) := by decide +kernel
theorem dX5_init_48 : decode cX5_init 48 = .ok (.aload_n 0, 1) := by decide +kernel
theorem dX5_init_49 : decode cX5_init 49 = .ok (.bipush 12, 2) := by decide +kernel
theorem dX5_init_51 : decode cX5_init 51 = .ok (.newarray .int, 2) := by decide +kernel
theorem dX5_init_53 : decode cX5_init 53 = .ok (.putfield 31, 3) := by decide +kernel
theorem dX5_init_56 : decode cX5_init 56 = .ok (.aload_n 0, 1) := by decide +kernel
theorem dX5_init_57 : decode cX5_init 57 = .ok (.bipush 8, 2) := by decide +kernel
theorem dX5_init_59 : decode cX5_init 59 = .ok (.putfield 34, 3) := by decide +kernel
theorem dX5_init_62 : decode cX5_init 62 = .ok (.aload_n 0, 1) := by decide +kernel
theorem dX5_init_63 : decode cX5_init 63 = .ok (.iconst 2, 1) := by decide +kernel
theorem dX5_init_64 : decode cX5_init 64 = .ok (.putfield 38, 3) := by decide +kernel
theorem dX5_init_67 : decode cX5_init 67 = .ok (.iconst 0, 1) := by decide +kernel
theorem dX5_init_68 : decode cX5_init 68 = .ok (.istore_n 1, 1) := by decide +kernel
theorem dX5_init_69 : decode cX5_init 69 = .ok (.iload_n 1, 1) := by decide +kernel
theorem dX5_init_70 : decode cX5_init 70 = .ok (.bipush 12, 2) := by decide +kernel
theorem dX5_init_72 : decode cX5_init 72 = .ok (.if_icmp .ge 22, 3) := by decide +kernel
theorem dX5_init_75 : decode cX5_init 75 = .ok (.aload_n 0, 1) := by decide +kernel
theorem dX5_init_76 : decode cX5_init 76 = .ok (.getfield 21, 3) := by decide +kernel
theorem dX5_init_79 : decode cX5_init 79 = .ok (.iload_n 1, 1) := by decide +kernel
theorem dX5_init_80 : decode cX5_init 80 = .ok (.new 19, 3) := by decide +kernel
theorem dX5_init_83 : decode cX5_init 83 = .ok (.dup, 1) := by decide +kernel
theorem dX5_init_84 : decode cX5_init 84 = .ok (.invokespecial 41, 3) := by decide +kernel
theorem dX5_init_87 : decode cX5_init 87 = .ok (.aastore, 1) := by decide +kernel
theorem dX5_init_88 : decode cX5_init 88 = .ok (.iinc 1 1, 3) := by decide +kernel
theorem dX5_init_91 : decode cX5_init 91 = .ok (.goto (-22), 3) := by decide +kernel
theorem dX5_init_94 : decode cX5_init 94 = .ok (.iconst 0, 1) := by decide +kernel
theorem dX5_init_95 : decode cX5_init 95 = .ok (.istore_n 1, 1) := by decide +kernel
theorem dX5_init_96 : decode cX5_init 96 = .ok (.iload_n 1, 1) := by decide +kernel
theorem dX5_init_97 : decode cX5_init 97 = .ok (.bipush 6, 2) := by decide +kernel
theorem dX5_init_99 : decode cX5_init 99 = .ok (.if_icmp .ge 22, 3) := by decide +kernel
theorem dX5_init_102 : decode cX5_init 102 = .ok (.aload_n 0, 1) := by decide +kernel
theorem dX5_init_103 : decode cX5_init 103 = .ok (.getfield 27, 3) := by decide +kernel
theorem dX5_init_106 : decode cX5_init 106 = .ok (.iload_n 1, 1) := by decide +kernel
theorem dX5_init_107 : decode cX5_init 107 = .ok (.new 25, 3) := by decide +kernel
theorem dX5_init_110 : decode cX5_init 110 = .ok (.dup, 1) := by decide +kernel
theorem dX5_init_111 : decode cX5_init 111 = .ok (.invokespecial 42, 3) := by decide +kernel
theorem dX5_init_114 : decode cX5_init 114 = .ok (.aastore, 1) := by decide +kernel
theorem dX5_init_115 : decode cX5_init 115 = .ok (.iinc 1 1, 3) := by decide +kernel
theorem dX5_init_118 : decode cX5_init 118 = .ok (.goto (-22), 3) := by decide +kernel
theorem dX5_init_121 : decode cX5_init 121 = .ok (.return_, 1) := by decide +kernel
theorem dX6_init_0 : decode cX6_init 0 = .ok (.aload_n 0, 1) := by decide +kernel
theorem dX6_init_1 : decode cX6_init 1 = .ok (.invokespecial 1, 3) := by decide +kernel
theorem dX6_init_4 : decode cX6_init 4 = .ok (.aload_n 0, 1) := by decide +kernel
theorem dX6_init_5 : decode cX6_init 5 = .ok (.sipush 512, 3) := by decide +kernel
theorem dX6_init_8 : decode cX6_init 8 = .ok (.newarray .int, 2) := by decide +kernel
theorem dX6_init_10 : decode cX6_init 10 = .ok (.putfield 7, 3) := by decide +kernel
theorem dX6_init_13 : decode cX6_init 13 = .ok (.aload_n 0, 1) := by decide +kernel
theorem dX6_init_14 : decode cX6_init 14 = .ok (.bipush 64, 2) := by decide +kernel
theorem dX6_init_16 : decode cX6_init 16 = .ok (.newarray .int, 2) := by decide +kernel
theorem dX6_init_18 : decode cX6_init 18 = .ok (.putfield 13, 3) := by decide +kernel
theorem dX6_init_21 : decode cX6_init 21 = .ok (.aload_n 0, 1) := by decide +kernel
theorem dX6_init_22 : decode cX6_init 22 = .ok (.bipush 12, 2) := by decide +kernel
theorem dX6_init_24 : decode cX6_init 24 = .ok (.newarray .int, 2) := by decide +kernel
theorem dX6_init_26 : decode cX6_init 26 = .ok (.putfield 16, 3) := by decide +kernel
theorem dX6_init_29 : decode cX6_init 29 = .ok (.aload_n 0, 1) := by decide +kernel
theorem dX6_init_30 : decode cX6_init 30 = .ok (.bipush 12, 2) := by decide +kernel
theorem dX6_init_32 : decode cX6_init 32 = .ok (.newarray .int, 2) := by decide +kernel
theorem dX6_init_34 : decode cX6_init 34 = .ok (.putfield 19, 3) := by decide +kernel
theorem dX6_init_37 : decode cX6_init 37 = .ok (.aload_n 0, 1) := by decide +kernel
theorem dX6_init_38 : decode cX6_init 38 = .ok (.bipush 12, 2) := by decide +kernel
theorem dX6_init_40 : decode cX6_init 40 = .ok (.newarray .int, 2) := by decide +kernel
theorem dX6_init_42 : decode cX6_init 42 = .ok (.putfield 22, 3) := by decide +kernel
theorem dX6_init_45 : decode cX6_init 45 = .ok (.aload_n 0, 1) := by decide +kernel
theorem dX6_init_46 : decode cX6_init 46 = .ok (.sipush 288, 3) := by decide +kernel
theorem dX6_init_49 : decode cX6_init 49 = .ok (.newarray .int, 2) := by decide +kernel
theorem dX6_init_51 : decode cX6_init 51 = .ok (.putfield 25, 3) := by decide +kernel
theorem dX6_init_54 : decode cX6_init 54 = .ok (.aload_n 0, 1) := by decide +kernel
theorem dX6_init_55 : decode cX6_init 55 = .ok (.bipush 12, 2) := by decide +kernel
theorem dX6_init_57 : decode cX6_init 57 = .ok (.newarray .int, 2) := by decide +kernel
theorem dX6_init_59 : decode cX6_init 59 = .ok (.putfield 28, 3) := by decide +kernel
theorem dX6_init_62 : decode cX6_init 62 = .ok (.aload_n 0, 1) := by decide +kernel
theorem dX6_init_63 : decode cX6_init 63 = .ok (.sipush 144, 3) := by decide +kernel
theorem dX6_init_66 : decode cX6_init 66 = .ok (.newarray .int, 2) := by decide +kernel
theorem dX6_init_68 : decode cX6_init 68 = .ok (.putfield 31, 3) := by decide +kernel
theorem dX6_init_71 : decode cX6_init 71 = .ok (.aload_n 0, 1) := by decide +kernel
theorem dX6_init_72 : decode cX6_init 72 = .ok (.bipush 12, 2) := by decide +kernel
theorem dX6_init_74 : decode cX6_init 74 = .ok (.newarray .int, 2) := by decide +kernel
theorem dX6_init_76 : decode cX6_init 76 = .ok (.putfield 34, 3) := by decide +kernel
theorem dX6_init_79 : decode cX6_init 79 = .ok (.aload_n 0, 1) := by decide +kernel
theorem dX6_init_80 : decode cX6_init 80 = .ok (.bipush 12, 2) := by decide +kernel
theorem dX6_init_82 : decode cX6_init 82 = .ok (.newarray .int, 2) := by decide +kernel
theorem dX6_init_84 : decode cX6_init 84 = .ok (.putfield 37, 3) := by decide +kernel
theorem dX6_init_87 : decode cX6_init 87 = .ok (.aload_n 0, 1) := by decide +kernel
theorem dX6_init_88 : decode cX6_init 88 = .ok (.bipush 12, 2) := by decide +kernel
theorem dX6_init_90 : decode cX6_init 90 = .ok (.newarray .int, 2) := by decide +kernel
theorem dX6_init_92 : decode cX6_init 92 = .ok (.putfield 40, 3) := by decide +kernel
theorem dX6_init_95 : decode cX6_init 95 = .ok (.aload_n 0, 1) := by decide +kernel
theorem dX6_init_96 : decode cX6_init 96 = .ok (.bipush 12, 2) := by decide +kernel
theorem dX6_init_98 : decode cX6_init 98 = .ok (.newarray .int, 2) := by decide +kernel
theorem dX6_init_100 : decode cX6_init 100 = .ok (.putfield 43, 3) := by decide +kernel
theorem dX6_init_103 : decode cX6_init 103 = .ok (.aload_n 0, 1) := by decide +kernel
theorem dX6_init_104 : decode cX6_init 104 = .ok (.bipush 12, 2) := by decide +kernel
theorem dX6_init_106 : decode cX6_init 106 = .ok (.newarray .int, 2) := by decide +kernel
theorem dX6_init_108 : decode cX6_init 108 = .ok (.putfield 46, 3) := by decide +kernel
theorem dX6_init_111 : decode cX6_init 111 = .ok (.aload_n 0, 1) := by decide +kernel
theorem dX6_init_112 : decode cX6_init 112 = .ok (.bipush 12, 2) := by decide +kernel
theorem dX6_init_114 : decode cX6_init 114 = .ok (.newarray .int, 2) := by decide +kernel
theorem dX6_init_116 : decode cX6_init 116 = .ok (.putfield 49, 3) := by decide +kernel
theorem dX6_init_119 : decode cX6_init 119 = .ok (.aload_n 0, 1) := by decide +kernel
theorem dX6_init_120 : decode cX6_init 120 = .ok (.bipush 6, 2) := by decide +kernel
theorem dX6_init_122 : decode cX6_init 122 = .ok (.newarray .int, 2) := by decide +kernel
theorem dX6_init_124 : decode cX6_init 124 = .ok (.putfield 52, 3) := by decide +kernel
theorem dX6_init_127 : decode cX6_init 127 = .ok (.aload_n 0, 1) := by decide +kernel
theorem dX6_init_128 : decode cX6_init 128 = .ok (.bipush 6, 2) := by decide +kernel
theorem dX6_init_130 : decode cX6_init 130 = .ok (.newarray .int, 2) := by decide +kernel
theorem dX6_init_132 : decode cX6_init 132 = .ok (.putfield 55, 3) := by decide +kernel
theorem dX6_init_135 : decode cX6_init 135 = .ok (.aload_n 0, 1) := by decide +kernel
theorem dX6_init_136 : decode cX6_init 136 = .ok (.bipush 48, 2) := by decide +kernel
theorem dX6_init_138 : decode cX6_init 138 = .ok (.newarray .int, 2) := by decide +kernel
theorem dX6_init_140 : decode cX6_init 140 = .ok (.putfield 58, 3) := by decide +kernel
theorem dX6_init_143 : decode cX6_init 143 = .ok (.aload_n 0, 1) := by decide +kernel
theorem dX6_init_144 : decode cX6_init 144 = .ok (.sipush 300, 3) := by decide +kernel
theorem dX6_init_147 : decode cX6_init 147 = .ok (.newarray .int, 2) := by decide +kernel
theorem dX6_init_149 : decode cX6_init 149 = .ok (.putfield 61, 3) := by decide +kernel
theorem dX6_init_152 : decode cX6_init 152 = .ok (.aload_n 0, 1) := by decide +kernel
theorem dX6_init_153 : decode cX6_init 153 = .ok (.bipush 12, 2) := by decide +kernel
theorem dX6_init_155 : decode cX6_init 155 = .ok (.newarray .int, 2) := by decide +kernel
theorem dX6_init_157 : decode cX6_init 157 = .ok (.putfield 64, 3) := by decide +kernel
theorem dX6_init_160 : decode cX6_init 160 = .ok (.aload_n 0, 1) := by decide +kernel
theorem dX6_init_161 : decode cX6_init 161 = .ok (.bipush 8, 2) := by decide +kernel
theorem dX6_init_163 : decode cX6_init 163 = .ok (.putfield 67, 3) := by decide +kernel
theorem dX6_init_166 : decode cX6_init 166 = .ok (.aload_n 0, 1) := by decide +kernel
theorem dX6_init_167 : decode cX6_init 167 = .ok (.iconst 2, 1) := by decide +kernel
theorem dX6_init_168 : decode cX6_init 168 = .ok (.putfield 71, 3) := by decide +kernel
theorem dX6_init_171 : decode cX6_init 171 = .ok (.iconst 0, 1) := by decide +kernel
theorem dX6_init_172 : decode cX6_init 172 = .ok (.istore_n 1, 1) := by decide +kernel
theorem dX6_init_173 : decode cX6_init 173 = .ok (.iload_n 1, 1) := by decide +kernel
theorem dX6_init_174 : decode cX6_init 174 = .ok (.bipush 6, 2) := by decide +kernel
theorem dX6_init_176 : decode cX6_init 176 = .ok (.if_icmp .ge 16, 3) := by decide +kernel
theorem dX6_init_179 : decode cX6_init 179 = .ok (.aload_n 0, 1) := by decide +kernel
theorem dX6_init_180 : decode cX6_init 180 = .ok (.getfield 52, 3) := by decide +kernel
theorem dX6_init_183 : decode cX6_init 183 = .ok (.iload_n 1, 1) := by decide +kernel
theorem dX6_init_184 : decode cX6_init 184 = .ok (.iconst 4, 1) := by decide +kernel
theorem dX6_init_185 : decode cX6_init 185 = .ok (.iastore, 1) := by decide +kernel
theorem dX6_init_186 : decode cX6_init 186 = .ok (.iinc 1 1, 3) := by decide +kernel
theorem dX6_init_189 : decode cX6_init 189 = .ok (.goto (-16), 3) := by decide +kernel
theorem dX6_init_192 : decode cX6_init 192 = .ok (.iconst 0, 1) := by decide +kernel
theorem dX6_init_193 : decode cX6_init 193 = .ok (.istore_n 1, 1) := by decide +kernel
theorem dX6_init_194 : decode cX6_init 194 = .ok (.iload_n 1, 1) := by decide +kernel
theorem dX6_init_195 : decode cX6_init 195 = .ok (.bipush 12, 2) := by decide +kernel
theorem dX6_init_197 : decode cX6_init 197 = .ok (.if_icmp .ge 16, 3) := by decide +kernel
theorem dX6_init_200 : decode cX6_init 200 = .ok (.aload_n 0, 1) := by decide +kernel
theorem dX6_init_201 : decode cX6_init 201 = .ok (.getfield 34, 3) := by decide +kernel
theorem dX6_init_204 : decode cX6_init 204 = .ok (.iload_n 1, 1) := by decide +kernel
theorem dX6_init_205 : decode cX6_init 205 = .ok (.iconst (-1), 1) := by decide +kernel
theorem dX6_init_206 : decode cX6_init 206 = .ok (.iastore, 1) := by decide +kernel
theorem dX6_init_207 : decode cX6_init 207 = .ok (.iinc 1 1, 3) := by decide +kernel
theorem dX6_init_210 : decode cX6_init 210 = .ok (.goto (-16), 3) := by decide +kernel
theorem dX6_init_213 : decode cX6_init 213 = .ok (.return_, 1) := by decide +kernel
theorem dL_s_0 : decode code 0 = .ok (.new 7, 3) := by decide +kernel
theorem dL_s_3 : decode code 3 = .ok (.dup, 1) := by decide +kernel
theorem dL_s_4 : decode code 4 = .ok (.invokespecial 9, 3) := by decide +kernel
theorem dL_s_7 : decode code 7 = .ok (.astore_n 1, 1) := by decide +kernel
theorem dL_s_8 : decode code 8 = .ok (.new 10, 3) := by decide +kernel
theorem dL_s_11 : decode code 11 = .ok (.dup, 1) := by decide +kernel
theorem dL_s_12 : decode code 12 = .ok (.invokespecial 12, 3) := by decide +kernel
theorem dL_s_15 : decode code 15 = .ok (.astore_n 2, 1) := by decide +kernel
theorem st_one {D : va_G} {cl : List vw_C} {tys : List (ClassId × FieldType)} {U : State} {cI cA : ClassId} (i j : Nat) (h : va_K D cl tys U) (hi : tys[i]? = some (cI, .int)) (hj : tys[j]? = some (cA, .int)) : cA = cI := Option.some.inj (((h.2 j _ hj).2).symm.trans (h.2 i _ hi).2)
/-- a constructor's words -/
def sw_w (y : MethodName) (b : ByteArray) (n : Nat) : List Cond := .code y b n none :: fj_tb
theorem st_good {y : MethodName} {b : ByteArray} {n : Nat} (h : Cond.code y b n none ∈ fj_tb) : GoodIn fj_tb (sw_w y b n) := fun w hw => by
  rcases List.mem_cons.mp hw with e | e
  · rw [e]; exact fj_tb_good _ h
  · exact fj_tb_good w e
