set_option maxRecDepth 20000 in
theorem ggX0_init_X10_init : GoodIn wsX0_init wsX10_init := goodIn_r _ [3, 4, 5, 6, 7, 8, 9, 10, 11, 12] (by decide +kernel) (by decide +kernel)
set_option maxRecDepth 20000 in
theorem gX0_init_X10_init_n1 : GoodIn wsX0_init (wsX10_init) := ggX0_init_X10_init
theorem dX0_init_0 : decode cX0_init 0 = .ok (.aload_n 0, 1) := by decide +kernel
theorem dX0_init_1 : decode cX0_init 1 = .ok (.invokespecial 1, 3) := by decide +kernel
theorem dX0_init_4 : decode cX0_init 4 = .ok (.return_, 1) := by decide +kernel
set_option maxRecDepth 20000 in
theorem ggX0_act_X10_act : GoodIn wsX0_act wsX10_act := goodIn_r _ [6, 7, 8, 9, 10, 11, 12, 13, 14, 15, 16, 17, 18, 19] (by decide +kernel) (by decide +kernel)
set_option maxRecDepth 20000 in
theorem gX0_act_X10_act_s7 : GoodIn wsX0_act (va_wsSU RX0 7 yX10_act wsX10_act) := goodIn_app (goodIn_of _ (by decide +kernel)) ggX0_act_X10_act
theorem dX0_act_0 : decode cX0_act 0 = .ok (.iload_n 1, 1) := by decide +kernel
theorem dX0_act_1 : decode cX0_act 1 = .ok (.iconst 2, 1) := by decide +kernel
theorem dX0_act_2 : decode cX0_act 2 = .ok (.irem, 1) := by decide +kernel
theorem dX0_act_3 : decode cX0_act 3 = .ok (.ifCond .ne 17, 3) := by decide +kernel
theorem dX0_act_6 : decode cX0_act 6 = .ok (.aload_n 0, 1) := by decide +kernel
theorem dX0_act_7 : decode cX0_act 7 = .ok (.iload_n 1, 1) := by decide +kernel
theorem dX0_act_8 : decode cX0_act 8 = .ok (.iload_n 2, 1) := by decide +kernel
theorem dX0_act_9 : decode cX0_act 9 = .ok (.iload_n 3, 1) := by decide +kernel
theorem dX0_act_10 : decode cX0_act 10 = .ok (.iload 4, 2) := by decide +kernel
theorem dX0_act_12 : decode cX0_act 12 = .ok (.iload 5, 2) := by decide +kernel
theorem dX0_act_14 : decode cX0_act 14 = .ok (.invokespecial 7, 3) := by decide +kernel
theorem dX0_act_17 : decode cX0_act 17 = .ok (.goto 4, 3) := by decide +kernel
theorem dX0_act_20 : decode cX0_act 20 = .ok (.iconst 0, 1) := by decide +kernel
theorem dX0_act_21 : decode cX0_act 21 = .ok (.ireturn, 1) := by decide +kernel
set_option maxRecDepth 20000 in
theorem ggX1_init_X9_init : GoodIn wsX1_init wsX9_init := goodIn_r _ [3, 4, 5, 6] (by decide +kernel) (by decide +kernel)
set_option maxRecDepth 20000 in
theorem gX1_init_X9_init_n1 : GoodIn wsX1_init (wsX9_init) := ggX1_init_X9_init
theorem dX1_init_0 : decode cX1_init 0 = .ok (.aload_n 0, 1) := by decide +kernel
theorem dX1_init_1 : decode cX1_init 1 = .ok (.invokespecial 1, 3) := by decide +kernel
theorem dX1_init_4 : decode cX1_init 4 = .ok (.return_, 1) := by decide +kernel
set_option maxRecDepth 20000 in
theorem ggX1_act_X9_act : GoodIn wsX1_act wsX9_act := goodIn_r _ [6, 7, 8, 9, 10, 5, 11, 12, 13, 14, 15, 16, 17] (by decide +kernel) (by decide +kernel)
set_option maxRecDepth 20000 in
theorem gX1_act_X9_act_s7 : GoodIn wsX1_act (va_wsSU RX1 7 yX9_act wsX9_act) := goodIn_app (goodIn_of _ (by decide +kernel)) ggX1_act_X9_act
theorem dX1_act_0 : decode cX1_act 0 = .ok (.aload_n 0, 1) := by decide +kernel
theorem dX1_act_1 : decode cX1_act 1 = .ok (.iload_n 1, 1) := by decide +kernel
theorem dX1_act_2 : decode cX1_act 2 = .ok (.iload_n 2, 1) := by decide +kernel
theorem dX1_act_3 : decode cX1_act 3 = .ok (.iload_n 3, 1) := by decide +kernel
theorem dX1_act_4 : decode cX1_act 4 = .ok (.iload 4, 2) := by decide +kernel
theorem dX1_act_6 : decode cX1_act 6 = .ok (.iload 5, 2) := by decide +kernel
theorem dX1_act_8 : decode cX1_act 8 = .ok (.invokespecial 7, 3) := by decide +kernel
theorem dX1_act_11 : decode cX1_act 11 = .ok (.istore 6, 2) := by decide +kernel
theorem dX1_act_13 : decode cX1_act 13 = .ok (.iload 6, 2) := by decide +kernel
theorem dX1_act_15 : decode cX1_act 15 = .ok (.aload_n 0, 1) := by decide +kernel
theorem dX1_act_16 : decode cX1_act 16 = .ok (.iload_n 1, 1) := by decide +kernel
theorem dX1_act_17 : decode cX1_act 17 = .ok (.iload_n 2, 1) := by decide +kernel
theorem dX1_act_18 : decode cX1_act 18 = .ok (.iload_n 3, 1) := by decide +kernel
theorem dX1_act_19 : decode cX1_act 19 = .ok (.iload 4, 2) := by decide +kernel
theorem dX1_act_21 : decode cX1_act 21 = .ok (.iload 6, 2) := by decide +kernel
theorem dX1_act_23 : decode cX1_act 23 = .ok (.iadd, 1) := by decide +kernel
theorem dX1_act_24 : decode cX1_act 24 = .ok (.iload 5, 2) := by decide +kernel
theorem dX1_act_26 : decode cX1_act 26 = .ok (.invokespecial 7, 3) := by decide +kernel
theorem dX1_act_29 : decode cX1_act 29 = .ok (.iadd, 1) := by decide +kernel
theorem dX1_act_30 : decode cX1_act 30 = .ok (.ireturn, 1) := by decide +kernel
set_option maxRecDepth 20000 in
theorem ggX2_init_X9_init : GoodIn wsX2_init wsX9_init := goodIn_r _ [3, 4, 5, 6] (by decide +kernel) (by decide +kernel)
set_option maxRecDepth 20000 in
theorem gX2_init_X9_init_n1 : GoodIn wsX2_init (wsX9_init) := ggX2_init_X9_init
theorem dX2_init_0 : decode cX2_init 0 = .ok (.aload_n 0, 1) := by decide +kernel
theorem dX2_init_1 : decode cX2_init 1 = .ok (.invokespecial 1, 3) := by decide +kernel
theorem dX2_init_4 : decode cX2_init 4 = .ok (.return_, 1) := by decide +kernel
set_option maxRecDepth 20000 in
theorem ggX2_act_X9_act : GoodIn wsX2_act wsX9_act := goodIn_r _ [6, 7, 8, 9, 10, 5, 11, 12, 13, 14, 15, 16, 17] (by decide +kernel) (by decide +kernel)
set_option maxRecDepth 20000 in
theorem gX2_act_X9_act_s7 : GoodIn wsX2_act (va_wsSU RX2 7 yX9_act wsX9_act) := goodIn_app (goodIn_of _ (by decide +kernel)) ggX2_act_X9_act
set_option maxRecDepth 20000 in
theorem ggX2_act_X9_layOne : GoodIn wsX2_act wsX9_layOne := goodIn_r _ [22] (by decide +kernel) (by decide +kernel)
set_option maxRecDepth 20000 in
theorem gX2_act_X9_layOne_u11X2 : GoodIn wsX2_act (va_wsU RX2 11 RX2 "PassStones$Taker" ⟨"PassStones$Cross", "layOne", "(I)I"⟩ yX9_layOne wsX9_layOne) := goodIn_app (goodIn_of _ (by decide +kernel)) ggX2_act_X9_layOne
theorem dX2_act_0 : decode cX2_act 0 = .ok (.iload 5, 2) := by decide +kernel
theorem dX2_act_2 : decode cX2_act 2 = .ok (.ifCond .le 15, 3) := by decide +kernel
theorem dX2_act_5 : decode cX2_act 5 = .ok (.aload_n 0, 1) := by decide +kernel
theorem dX2_act_6 : decode cX2_act 6 = .ok (.iload_n 1, 1) := by decide +kernel
theorem dX2_act_7 : decode cX2_act 7 = .ok (.iload_n 2, 1) := by decide +kernel
theorem dX2_act_8 : decode cX2_act 8 = .ok (.iload_n 3, 1) := by decide +kernel
theorem dX2_act_9 : decode cX2_act 9 = .ok (.iload 4, 2) := by decide +kernel
theorem dX2_act_11 : decode cX2_act 11 = .ok (.iload 5, 2) := by decide +kernel
theorem dX2_act_13 : decode cX2_act 13 = .ok (.invokespecial 7, 3) := by decide +kernel
theorem dX2_act_16 : decode cX2_act 16 = .ok (.ireturn, 1) := by decide +kernel
theorem dX2_act_17 : decode cX2_act 17 = .ok (.iload 5, 2) := by decide +kernel
theorem dX2_act_19 : decode cX2_act 19 = .ok (.ifCond .ge 17, 3) := by decide +kernel
theorem dX2_act_22 : decode cX2_act 22 = .ok (.iload_n 2, 1) := by decide +kernel
theorem dX2_act_23 : decode cX2_act 23 = .ok (.iconst 1, 1) := by decide +kernel
theorem dX2_act_24 : decode cX2_act 24 = .ok (.if_icmp .ne 12, 3) := by decide +kernel
theorem dX2_act_27 : decode cX2_act 27 = .ok (.aload_n 0, 1) := by decide +kernel
theorem dX2_act_28 : decode cX2_act 28 = .ok (.iload 4, 2) := by decide +kernel
theorem dX2_act_30 : decode cX2_act 30 = .ok (.invokevirtual 11, 3) := by decide +kernel
theorem dX2_act_33 : decode cX2_act 33 = .ok (.goto 4, 3) := by decide +kernel
theorem dX2_act_36 : decode cX2_act 36 = .ok (.iconst 0, 1) := by decide +kernel
theorem dX2_act_37 : decode cX2_act 37 = .ok (.ireturn, 1) := by decide +kernel
theorem dX3_init_0 : decode cX3_init 0 = .ok (.aload_n 0, 1) := by decide +kernel
theorem dX3_init_1 : decode cX3_init 1 = .ok (.invokespecial 3, 3) := by decide +kernel
theorem dX3_init_4 : decode cX3_init 4 = .ok (.aload_n 0, 1) := by decide +kernel
theorem dX3_init_5 : decode cX3_init 5 = .ok (.sipush 620, 3) := by decide +kernel
theorem dX3_init_8 : decode cX3_init 8 = .ok (.newarray .int, 2) := by decide +kernel
theorem dX3_init_10 : decode cX3_init 10 = .ok (.putfield 9, 3) := by decide +kernel
theorem dX3_init_13 : decode cX3_init 13 = .ok (.aload_n 0, 1) := by decide +kernel
theorem dX3_init_14 : decode cX3_init 14 = .ok (.iconst 5, 1) := by decide +kernel
theorem dX3_init_15 : decode cX3_init 15 = .ok (.newarray .int, 2) := by decide +kernel
theorem dX3_init_17 : decode cX3_init 17 = .ok (.putfield 15, 3) := by decide +kernel
theorem dX3_init_20 : decode cX3_init 20 = .ok (.aload_n 0, 1) := by decide +kernel
theorem dX3_init_21 : decode cX3_init 21 = .ok (.iconst 0, 1) := by decide +kernel
theorem dX3_init_22 : decode cX3_init 22 = .ok (.putfield 18, 3) := by decide +kernel
theorem dX3_init_25 : decode cX3_init 25 = .ok (.aload_n 0, 1) := by decide +kernel
theorem dX3_init_26 : decode cX3_init 26 = .ok (.iconst 0, 1) := by decide +kernel
theorem dX3_init_27 : decode cX3_init 27 = .ok (.putfield 22, 3) := by decide +kernel
theorem dX3_init_30 : decode cX3_init 30 = .ok (.aload_n 0, 1) := by decide +kernel
theorem dX3_init_31 : decode cX3_init 31 = .ok (.iconst 0, 1) := by decide +kernel
theorem dX3_init_32 : decode cX3_init 32 = .ok (.putfield 25, 3) := by decide +kernel
theorem dX3_init_35 : decode cX3_init 35 = .ok (.return_, 1) := by decide +kernel
set_option maxRecDepth 20000 in
theorem ggX3_weigh_X7_size : GoodIn wsX3_weigh wsX7_size := goodIn_r _ [6, 7, 138, 139, 140, 141] (by decide +kernel) (by decide +kernel)
set_option maxRecDepth 20000 in
theorem gX3_weigh_X7_size : GoodIn wsX3_weigh (wsV RX3 34 RX7 yX7_size wsX7_size) := goodIn_app (goodIn_of _ (by decide +kernel)) ggX3_weigh_X7_size
set_option maxRecDepth 20000 in
theorem ggX3_weigh_X3_passedAhead : GoodIn wsX3_weigh wsX3_passedAhead := goodIn_r _ [11, 12, 13, 14, 5, 15, 16, 17, 18, 19, 20, 21, 22, 23, 24, 3, 4, 6, 7, 25, 126, 127, 128, 129, 130, 131, 132, 138, 139, 140, 141] (by decide +kernel) (by decide +kernel)
set_option maxRecDepth 20000 in
theorem gX3_weigh_X3_passedAhead : GoodIn wsX3_weigh (va_wsS RX3 40 yX3_passedAhead wsX3_passedAhead) := goodIn_app (goodIn_of _ (by decide +kernel)) ggX3_weigh_X3_passedAhead
set_option maxRecDepth 20000 in
theorem ggX3_weigh_X7_at : GoodIn wsX3_weigh wsX7_at := goodIn_r _ [15, 16, 17, 138, 139, 140, 141] (by decide +kernel) (by decide +kernel)
set_option maxRecDepth 20000 in
theorem gX3_weigh_X7_at : GoodIn wsX3_weigh (wsV RX3 44 RX7 yX7_at wsX7_at) := goodIn_app (goodIn_of _ (by decide +kernel)) ggX3_weigh_X7_at
set_option maxRecDepth 20000 in
theorem ggX3_weigh_X5_walk : GoodIn wsX3_weigh wsX5_walk := goodIn_r _ [29, 30, 31, 32, 33, 34, 35, 36, 37, 21, 38, 23, 39, 25, 13, 14, 5, 15, 16, 17, 40, 41, 42, 43, 44, 45, 46, 47, 48, 49, 50, 51, 52, 53, 54, 55, 56, 57, 58, 59, 60, 61, 62, 63, 64, 65, 66, 67, 68, 69, 70, 71, 72, 73, 74, 75, 76, 77, 78, 79, 80, 81, 82, 83, 84, 85, 86, 87, 88, 89, 90, 91, 92, 93, 94, 95, 96, 97, 98, 99, 100, 101, 102, 103, 104, 105, 106, 107, 126, 127, 128, 129, 130, 131, 132, 138, 139, 140, 141] (by decide +kernel) (by decide +kernel)
set_option maxRecDepth 20000 in
theorem gX3_weigh_X5_walk : GoodIn wsX3_weigh (wsV RX3 48 RX5 yX5_walk wsX5_walk) := goodIn_app (goodIn_of _ (by decide +kernel)) ggX3_weigh_X5_walk
set_option maxRecDepth 20000 in
theorem ggX3_weigh_X3_seekGoal : GoodIn wsX3_weigh wsX3_seekGoal := goodIn_r _ [111, 1, 112, 113, 114, 115, 116, 30, 31, 32, 33, 34, 12, 13, 14, 5, 15, 16, 17, 2, 3, 4, 6, 7, 106, 107, 117, 118, 119, 10, 120, 121, 126, 127, 128, 129, 130, 131, 132, 133, 134, 135, 136, 137, 138, 139, 140, 141] (by decide +kernel) (by decide +kernel)
set_option maxRecDepth 20000 in
theorem gX3_weigh_X3_seekGoal : GoodIn wsX3_weigh (wsV RX3 52 RX3 yX3_seekGoal wsX3_seekGoal) := goodIn_app (goodIn_of _ (by decide +kernel)) ggX3_weigh_X3_seekGoal
set_option maxRecDepth 20000 in
theorem ggX3_weigh_X3_keep : GoodIn wsX3_weigh wsX3_keep := goodIn_r _ [125, 121, 133, 134, 135, 136, 137] (by decide +kernel) (by decide +kernel)
set_option maxRecDepth 20000 in
theorem gX3_weigh_X3_keep : GoodIn wsX3_weigh (wsV RX3 56 RX3 yX3_keep wsX3_keep) := goodIn_app (goodIn_of _ (by decide +kernel)) ggX3_weigh_X3_keep
theorem dX3_weigh_0 : decode cX3_weigh 0 = .ok (.aload_n 1, 1) := by decide +kernel
theorem dX3_weigh_1 : decode cX3_weigh 1 = .ok (.getfield 28, 3) := by decide +kernel
theorem dX3_weigh_4 : decode cX3_weigh 4 = .ok (.invokevirtual 34, 3) := by decide +kernel
theorem dX3_weigh_7 : decode cX3_weigh 7 = .ok (.iconst 1, 1) := by decide +kernel
theorem dX3_weigh_8 : decode cX3_weigh 8 = .ok (.isub, 1) := by decide +kernel
theorem dX3_weigh_9 : decode cX3_weigh 9 = .ok (.istore_n 2, 1) := by decide +kernel
theorem dX3_weigh_10 : decode cX3_weigh 10 = .ok (.iload_n 2, 1) := by decide +kernel
theorem dX3_weigh_11 : decode cX3_weigh 11 = .ok (.ifCond .le 99, 3) := by decide +kernel
theorem dX3_weigh_14 : decode cX3_weigh 14 = .ok (.aload_n 1, 1) := by decide +kernel
theorem dX3_weigh_15 : decode cX3_weigh 15 = .ok (.iload_n 2, 1) := by decide +kernel
theorem dX3_weigh_16 : decode cX3_weigh 16 = .ok (.invokestatic 40, 3) := by decide +kernel
theorem dX3_weigh_19 : decode cX3_weigh 19 = .ok (.istore_n 3, 1) := by decide +kernel
theorem dX3_weigh_20 : decode cX3_weigh 20 = .ok (.aload_n 1, 1) := by decide +kernel
theorem dX3_weigh_21 : decode cX3_weigh 21 = .ok (.iload_n 2, 1) := by decide +kernel
theorem dX3_weigh_22 : decode cX3_weigh 22 = .ok (.iconst 1, 1) := by decide +kernel
theorem dX3_weigh_23 : decode cX3_weigh 23 = .ok (.iadd, 1) := by decide +kernel
theorem dX3_weigh_24 : decode cX3_weigh 24 = .ok (.invokestatic 40, 3) := by decide +kernel
theorem dX3_weigh_27 : decode cX3_weigh 27 = .ok (.istore 4, 2) := by decide +kernel
theorem dX3_weigh_29 : decode cX3_weigh 29 = .ok (.aload_n 1, 1) := by decide +kernel
theorem dX3_weigh_30 : decode cX3_weigh 30 = .ok (.getfield 28, 3) := by decide +kernel
theorem dX3_weigh_33 : decode cX3_weigh 33 = .ok (.iload_n 2, 1) := by decide +kernel
theorem dX3_weigh_34 : decode cX3_weigh 34 = .ok (.iconst 1, 1) := by decide +kernel
theorem dX3_weigh_35 : decode cX3_weigh 35 = .ok (.isub, 1) := by decide +kernel
theorem dX3_weigh_36 : decode cX3_weigh 36 = .ok (.iconst 1, 1) := by decide +kernel
theorem dX3_weigh_37 : decode cX3_weigh 37 = .ok (.invokevirtual 44, 3) := by decide +kernel
theorem dX3_weigh_40 : decode cX3_weigh 40 = .ok (.iconst 4, 1) := by decide +kernel
theorem dX3_weigh_41 : decode cX3_weigh 41 = .ok (.imul, 1) := by decide +kernel
theorem dX3_weigh_42 : decode cX3_weigh 42 = .ok (.istore 5, 2) := by decide +kernel
theorem dX3_weigh_44 : decode cX3_weigh 44 = .ok (.aload_n 1, 1) := by decide +kernel
theorem dX3_weigh_45 : decode cX3_weigh 45 = .ok (.getfield 28, 3) := by decide +kernel
theorem dX3_weigh_48 : decode cX3_weigh 48 = .ok (.iload_n 2, 1) := by decide +kernel
theorem dX3_weigh_49 : decode cX3_weigh 49 = .ok (.iconst 1, 1) := by decide +kernel
theorem dX3_weigh_50 : decode cX3_weigh 50 = .ok (.isub, 1) := by decide +kernel
theorem dX3_weigh_51 : decode cX3_weigh 51 = .ok (.iconst 2, 1) := by decide +kernel
theorem dX3_weigh_52 : decode cX3_weigh 52 = .ok (.invokevirtual 44, 3) := by decide +kernel
theorem dX3_weigh_55 : decode cX3_weigh 55 = .ok (.iconst 4, 1) := by decide +kernel
theorem dX3_weigh_56 : decode cX3_weigh 56 = .ok (.imul, 1) := by decide +kernel
theorem dX3_weigh_57 : decode cX3_weigh 57 = .ok (.iconst 4, 1) := by decide +kernel
theorem dX3_weigh_58 : decode cX3_weigh 58 = .ok (.iadd, 1) := by decide +kernel
theorem dX3_weigh_59 : decode cX3_weigh 59 = .ok (.istore 6, 2) := by decide +kernel
theorem dX3_weigh_61 : decode cX3_weigh 61 = .ok (.iload 5, 2) := by decide +kernel
theorem dX3_weigh_63 : decode cX3_weigh 63 = .ok (.istore 7, 2) := by decide +kernel
theorem dX3_weigh_65 : decode cX3_weigh 65 = .ok (.iload 7, 2) := by decide +kernel
theorem dX3_weigh_67 : decode cX3_weigh 67 = .ok (.iload 6, 2) := by decide +kernel
theorem dX3_weigh_69 : decode cX3_weigh 69 = .ok (.if_icmp .ge 35, 3) := by decide +kernel
theorem dX3_weigh_72 : decode cX3_weigh 72 = .ok (.aload_n 0, 1) := by decide +kernel
theorem dX3_weigh_73 : decode cX3_weigh 73 = .ok (.aload_n 1, 1) := by decide +kernel
theorem dX3_weigh_74 : decode cX3_weigh 74 = .ok (.iload_n 2, 1) := by decide +kernel
theorem dX3_weigh_75 : decode cX3_weigh 75 = .ok (.aload_n 1, 1) := by decide +kernel
theorem dX3_weigh_76 : decode cX3_weigh 76 = .ok (.iload_n 3, 1) := by decide +kernel
theorem dX3_weigh_77 : decode cX3_weigh 77 = .ok (.iload 4, 2) := by decide +kernel
theorem dX3_weigh_79 : decode cX3_weigh 79 = .ok (.iload 7, 2) := by decide +kernel
theorem dX3_weigh_81 : decode cX3_weigh 81 = .ok (.invokevirtual 48, 3) := by decide +kernel
theorem dX3_weigh_84 : decode cX3_weigh 84 = .ok (.invokevirtual 52, 3) := by decide +kernel
theorem dX3_weigh_87 : decode cX3_weigh 87 = .ok (.aload_n 0, 1) := by decide +kernel
theorem dX3_weigh_88 : decode cX3_weigh 88 = .ok (.iload_n 2, 1) := by decide +kernel
theorem dX3_weigh_89 : decode cX3_weigh 89 = .ok (.iload 7, 2) := by decide +kernel
theorem dX3_weigh_91 : decode cX3_weigh 91 = .ok (.aload_n 0, 1) := by decide +kernel
theorem dX3_weigh_92 : decode cX3_weigh 92 = .ok (.getfield 25, 3) := by decide +kernel
theorem dX3_weigh_95 : decode cX3_weigh 95 = .ok (.invokevirtual 56, 3) := by decide +kernel
theorem dX3_weigh_98 : decode cX3_weigh 98 = .ok (.iinc 7 1, 3) := by decide +kernel
theorem dX3_weigh_101 : decode cX3_weigh 101 = .ok (.goto (-36), 3) := by decide +kernel
theorem dX3_weigh_104 : decode cX3_weigh 104 = .ok (.iinc 2 (-1), 3) := by decide +kernel
theorem dX3_weigh_107 : decode cX3_weigh 107 = .ok (.goto (-97), 3) := by decide +kernel
theorem dX3_weigh_110 : decode cX3_weigh 110 = .ok (.return_, 1) := by decide +kernel
set_option maxRecDepth 20000 in
theorem ggX3_follow_X5_firstStand : GoodIn wsX3_follow wsX5_firstStand := goodIn_r _ [12, 13, 14, 15, 16, 134, 135, 136, 137, 138, 139, 140] (by decide +kernel) (by decide +kernel)
set_option maxRecDepth 20000 in
theorem gX3_follow_X5_firstStand : GoodIn wsX3_follow (wsV RX3 60 RX5 yX5_firstStand wsX5_firstStand) := goodIn_app (goodIn_of _ (by decide +kernel)) ggX3_follow_X5_firstStand
set_option maxRecDepth 20000 in
theorem ggX3_follow_X7_size : GoodIn wsX3_follow wsX7_size := goodIn_r _ [21, 22, 141, 142, 143, 144] (by decide +kernel) (by decide +kernel)
set_option maxRecDepth 20000 in
theorem gX3_follow_X7_size : GoodIn wsX3_follow (wsV RX3 34 RX7 yX7_size wsX7_size) := goodIn_app (goodIn_of _ (by decide +kernel)) ggX3_follow_X7_size
set_option maxRecDepth 20000 in
theorem ggX3_follow_X3_passedAhead : GoodIn wsX3_follow wsX3_passedAhead := goodIn_r _ [26, 27, 28, 29, 20, 30, 31, 32, 33, 34, 35, 11, 36, 37, 38, 18, 19, 21, 22, 39, 134, 135, 136, 137, 138, 139, 140, 141, 142, 143, 144] (by decide +kernel) (by decide +kernel)
set_option maxRecDepth 20000 in
theorem gX3_follow_X3_passedAhead : GoodIn wsX3_follow (va_wsS RX3 40 yX3_passedAhead wsX3_passedAhead) := goodIn_app (goodIn_of _ (by decide +kernel)) ggX3_follow_X3_passedAhead
set_option maxRecDepth 20000 in
theorem ggX3_follow_X5_walk : GoodIn wsX3_follow wsX5_walk := goodIn_r _ [43, 44, 15, 45, 46, 47, 48, 49, 50, 11, 51, 37, 52, 39, 28, 29, 20, 30, 31, 32, 53, 54, 55, 56, 57, 58, 59, 60, 61, 62, 63, 64, 65, 66, 67, 68, 69, 70, 71, 72, 73, 74, 75, 76, 77, 78, 79, 80, 81, 82, 83, 84, 85, 86, 87, 88, 89, 90, 91, 92, 93, 94, 95, 96, 97, 98, 99, 100, 101, 102, 103, 104, 105, 106, 107, 108, 109, 110, 111, 112, 113, 114, 115, 116, 117, 118, 14, 16, 134, 135, 136, 137, 138, 139, 140, 141, 142, 143, 144] (by decide +kernel) (by decide +kernel)
set_option maxRecDepth 20000 in
theorem gX3_follow_X5_walk : GoodIn wsX3_follow (wsV RX3 48 RX5 yX5_walk wsX5_walk) := goodIn_app (goodIn_of _ (by decide +kernel)) ggX3_follow_X5_walk
set_option maxRecDepth 20000 in
theorem ggX3_follow_X3_seekGoal : GoodIn wsX3_follow wsX3_seekGoal := goodIn_r _ [122, 123, 4, 5, 6, 7, 3, 44, 15, 45, 46, 47, 27, 28, 29, 20, 30, 31, 32, 17, 18, 19, 21, 22, 14, 16, 124, 125, 126, 25, 127, 128, 134, 135, 136, 137, 138, 139, 140, 129, 130, 131, 132, 133, 141, 142, 143, 144] (by decide +kernel) (by decide +kernel)
set_option maxRecDepth 20000 in
theorem gX3_follow_X3_seekGoal : GoodIn wsX3_follow (wsV RX3 52 RX3 yX3_seekGoal wsX3_seekGoal) := goodIn_app (goodIn_of _ (by decide +kernel)) ggX3_follow_X3_seekGoal
set_option maxRecDepth 20000 in
theorem ggX3_follow_X11_highOf : GoodIn wsX3_follow wsX11_highOf := goodIn_r _ [45] (by decide +kernel) (by decide +kernel)
set_option maxRecDepth 20000 in
theorem gX3_follow_X11_highOf_n63 : GoodIn wsX3_follow (wsX11_highOf) := ggX3_follow_X11_highOf
set_option maxRecDepth 20000 in
theorem ggX3_follow_X11_didOf : GoodIn wsX3_follow wsX11_didOf := goodIn_r _ [47] (by decide +kernel) (by decide +kernel)
set_option maxRecDepth 20000 in
theorem gX3_follow_X11_didOf_n72 : GoodIn wsX3_follow (wsX11_didOf) := ggX3_follow_X11_didOf
set_option maxRecDepth 20000 in
theorem ggX3_follow_X11_stand : GoodIn wsX3_follow wsX11_stand := goodIn_r _ [16] (by decide +kernel) (by decide +kernel)
set_option maxRecDepth 20000 in
theorem gX3_follow_X11_stand_n75 : GoodIn wsX3_follow (wsX11_stand) := ggX3_follow_X11_stand
theorem dX3_follow_0 : decode cX3_follow 0 = .ok (.aload_n 1, 1) := by decide +kernel
theorem dX3_follow_1 : decode cX3_follow 1 = .ok (.invokevirtual 60, 3) := by decide +kernel
theorem dX3_follow_4 : decode cX3_follow 4 = .ok (.istore_n 2, 1) := by decide +kernel
theorem dX3_follow_5 : decode cX3_follow 5 = .ok (.aload_n 0, 1) := by decide +kernel
theorem dX3_follow_6 : decode cX3_follow 6 = .ok (.iconst 0, 1) := by decide +kernel
theorem dX3_follow_7 : decode cX3_follow 7 = .ok (.putfield 18, 3) := by decide +kernel
theorem dX3_follow_10 : decode cX3_follow 10 = .ok (.iconst 0, 1) := by decide +kernel
theorem dX3_follow_11 : decode cX3_follow 11 = .ok (.istore_n 3, 1) := by decide +kernel
theorem dX3_follow_12 : decode cX3_follow 12 = .ok (.iload_n 3, 1) := by decide +kernel
theorem dX3_follow_13 : decode cX3_follow 13 = .ok (.aload_n 0, 1) := by decide +kernel
theorem dX3_follow_14 : decode cX3_follow 14 = .ok (.getfield 15, 3) := by decide +kernel
theorem dX3_follow_17 : decode cX3_follow 17 = .ok (.arraylength, 1) := by decide +kernel
theorem dX3_follow_18 : decode cX3_follow 18 = .ok (.if_icmp .ge 94, 3) := by decide +kernel
theorem dX3_follow_21 : decode cX3_follow 21 = .ok (.iload_n 3, 1) := by decide +kernel
theorem dX3_follow_22 : decode cX3_follow 22 = .ok (.aload_n 1, 1) := by decide +kernel
theorem dX3_follow_23 : decode cX3_follow 23 = .ok (.getfield 28, 3) := by decide +kernel
theorem dX3_follow_26 : decode cX3_follow 26 = .ok (.invokevirtual 34, 3) := by decide +kernel
theorem dX3_follow_29 : decode cX3_follow 29 = .ok (.if_icmp .ge 83, 3) := by decide +kernel
theorem dX3_follow_32 : decode cX3_follow 32 = .ok (.aload_n 1, 1) := by decide +kernel
theorem dX3_follow_33 : decode cX3_follow 33 = .ok (.aload_n 1, 1) := by decide +kernel
theorem dX3_follow_34 : decode cX3_follow 34 = .ok (.iload_n 3, 1) := by decide +kernel
theorem dX3_follow_35 : decode cX3_follow 35 = .ok (.invokestatic 40, 3) := by decide +kernel
theorem dX3_follow_38 : decode cX3_follow 38 = .ok (.aload_n 1, 1) := by decide +kernel
theorem dX3_follow_39 : decode cX3_follow 39 = .ok (.iload_n 3, 1) := by decide +kernel
theorem dX3_follow_40 : decode cX3_follow 40 = .ok (.iconst 1, 1) := by decide +kernel
theorem dX3_follow_41 : decode cX3_follow 41 = .ok (.iadd, 1) := by decide +kernel
theorem dX3_follow_42 : decode cX3_follow 42 = .ok (.invokestatic 40, 3) := by decide +kernel
theorem dX3_follow_45 : decode cX3_follow 45 = .ok (.iload_n 2, 1) := by decide +kernel
theorem dX3_follow_46 : decode cX3_follow 46 = .ok (.invokevirtual 48, 3) := by decide +kernel
theorem dX3_follow_49 : decode cX3_follow 49 = .ok (.istore 4, 2) := by decide +kernel
theorem dX3_follow_51 : decode cX3_follow 51 = .ok (.aload_n 0, 1) := by decide +kernel
theorem dX3_follow_52 : decode cX3_follow 52 = .ok (.aload_n 1, 1) := by decide +kernel
theorem dX3_follow_53 : decode cX3_follow 53 = .ok (.iload_n 3, 1) := by decide +kernel
theorem dX3_follow_54 : decode cX3_follow 54 = .ok (.iload 4, 2) := by decide +kernel
theorem dX3_follow_56 : decode cX3_follow 56 = .ok (.invokevirtual 52, 3) := by decide +kernel
theorem dX3_follow_59 : decode cX3_follow 59 = .ok (.aload_n 0, 1) := by decide +kernel
theorem dX3_follow_60 : decode cX3_follow 60 = .ok (.getfield 15, 3) := by decide +kernel
theorem dX3_follow_63 : decode cX3_follow 63 = .ok (.iload_n 3, 1) := by decide +kernel
theorem dX3_follow_64 : decode cX3_follow 64 = .ok (.aload_n 0, 1) := by decide +kernel
theorem dX3_follow_65 : decode cX3_follow 65 = .ok (.getfield 22, 3) := by decide +kernel
theorem dX3_follow_68 : decode cX3_follow 68 = .ok (.iload 4, 2) := by decide +kernel
theorem dX3_follow_70 : decode cX3_follow 70 = .ok (.invokestatic 63, 3) := by decide +kernel
theorem dX3_follow_73 : decode cX3_follow 73 = .ok (.isub, 1) := by decide +kernel
theorem dX3_follow_74 : decode cX3_follow 74 = .ok (.iastore, 1) := by decide +kernel
theorem dX3_follow_75 : decode cX3_follow 75 = .ok (.aload_n 0, 1) := by decide +kernel
theorem dX3_follow_76 : decode cX3_follow 76 = .ok (.dup, 1) := by decide +kernel
theorem dX3_follow_77 : decode cX3_follow 77 = .ok (.getfield 18, 3) := by decide +kernel
theorem dX3_follow_80 : decode cX3_follow 80 = .ok (.aload_n 0, 1) := by decide +kernel
theorem dX3_follow_81 : decode cX3_follow 81 = .ok (.getfield 15, 3) := by decide +kernel
theorem dX3_follow_84 : decode cX3_follow 84 = .ok (.iload_n 3, 1) := by decide +kernel
theorem dX3_follow_85 : decode cX3_follow 85 = .ok (.iaload, 1) := by decide +kernel
theorem dX3_follow_86 : decode cX3_follow 86 = .ok (.invokestatic 67, 3) := by decide +kernel
theorem dX3_follow_89 : decode cX3_follow 89 = .ok (.iadd, 1) := by decide +kernel
theorem dX3_follow_90 : decode cX3_follow 90 = .ok (.putfield 18, 3) := by decide +kernel
theorem dX3_follow_93 : decode cX3_follow 93 = .ok (.aload_n 0, 1) := by decide +kernel
theorem dX3_follow_94 : decode cX3_follow 94 = .ok (.getfield 22, 3) := by decide +kernel
theorem dX3_follow_97 : decode cX3_follow 97 = .ok (.iload 4, 2) := by decide +kernel
theorem dX3_follow_99 : decode cX3_follow 99 = .ok (.invokestatic 72, 3) := by decide +kernel
theorem dX3_follow_102 : decode cX3_follow 102 = .ok (.invokestatic 75, 3) := by decide +kernel
theorem dX3_follow_105 : decode cX3_follow 105 = .ok (.istore_n 2, 1) := by decide +kernel
theorem dX3_follow_106 : decode cX3_follow 106 = .ok (.iinc 3 1, 3) := by decide +kernel
theorem dX3_follow_109 : decode cX3_follow 109 = .ok (.goto (-97), 3) := by decide +kernel
theorem dX3_follow_112 : decode cX3_follow 112 = .ok (.return_, 1) := by decide +kernel
theorem dX3_gainAt_0 : decode cX3_gainAt 0 = .ok (.iload_n 1, 1) := by decide +kernel
theorem dX3_gainAt_1 : decode cX3_gainAt 1 = .ok (.ifCond .lt 21, 3) := by decide +kernel
theorem dX3_gainAt_4 : decode cX3_gainAt 4 = .ok (.iload_n 1, 1) := by decide +kernel
theorem dX3_gainAt_5 : decode cX3_gainAt 5 = .ok (.aload_n 0, 1) := by decide +kernel
theorem dX3_gainAt_6 : decode cX3_gainAt 6 = .ok (.getfield 15, 3) := by decide +kernel
theorem dX3_gainAt_9 : decode cX3_gainAt 9 = .ok (.arraylength, 1) := by decide +kernel
theorem dX3_gainAt_10 : decode cX3_gainAt 10 = .ok (.if_icmp .ge 12, 3) := by decide +kernel
theorem dX3_gainAt_13 : decode cX3_gainAt 13 = .ok (.aload_n 0, 1) := by decide +kernel
theorem dX3_gainAt_14 : decode cX3_gainAt 14 = .ok (.getfield 15, 3) := by decide +kernel
theorem dX3_gainAt_17 : decode cX3_gainAt 17 = .ok (.iload_n 1, 1) := by decide +kernel
theorem dX3_gainAt_18 : decode cX3_gainAt 18 = .ok (.iaload, 1) := by decide +kernel
theorem dX3_gainAt_19 : decode cX3_gainAt 19 = .ok (.goto 4, 3) := by decide +kernel
theorem dX3_gainAt_22 : decode cX3_gainAt 22 = .ok (.iconst 0, 1) := by decide +kernel
theorem dX3_gainAt_23 : decode cX3_gainAt 23 = .ok (.ireturn, 1) := by decide +kernel
set_option maxRecDepth 20000 in
theorem ggX3_passedAhead_X7_at : GoodIn wsX3_passedAhead wsX7_at := goodIn_r _ [5, 6, 7, 27, 28, 29, 30] (by decide +kernel) (by decide +kernel)
set_option maxRecDepth 20000 in
theorem gX3_passedAhead_X7_at : GoodIn wsX3_passedAhead (wsV RX3 44 RX7 yX7_at wsX7_at) := goodIn_app (goodIn_of _ (by decide +kernel)) ggX3_passedAhead_X7_at
set_option maxRecDepth 20000 in
theorem ggX3_passedAhead_X5_passedUntil : GoodIn wsX3_passedAhead wsX5_passedUntil := goodIn_r _ [12, 13, 14, 15, 16, 4, 17, 18, 19, 2, 3, 5, 6, 7, 20, 21, 22, 23, 24, 25, 26, 27, 28, 29, 30] (by decide +kernel) (by decide +kernel)
set_option maxRecDepth 20000 in
theorem gX3_passedAhead_X5_passedUntil : GoodIn wsX3_passedAhead (wsV RX3 78 RX5 yX5_passedUntil wsX5_passedUntil) := goodIn_app (goodIn_of _ (by decide +kernel)) ggX3_passedAhead_X5_passedUntil
theorem dX3_passedAhead_0 : decode cX3_passedAhead 0 = .ok (.iload_n 1, 1) := by decide +kernel
theorem dX3_passedAhead_1 : decode cX3_passedAhead 1 = .ok (.ifCond .gt 7, 3) := by decide +kernel
theorem dX3_passedAhead_4 : decode cX3_passedAhead 4 = .ok (.iconst 0, 1) := by decide +kernel
theorem dX3_passedAhead_5 : decode cX3_passedAhead 5 = .ok (.goto 18, 3) := by decide +kernel
theorem dX3_passedAhead_8 : decode cX3_passedAhead 8 = .ok (.aload_n 0, 1) := by decide +kernel
theorem dX3_passedAhead_9 : decode cX3_passedAhead 9 = .ok (.aload_n 0, 1) := by decide +kernel
theorem dX3_passedAhead_10 : decode cX3_passedAhead 10 = .ok (.getfield 28, 3) := by decide +kernel
theorem dX3_passedAhead_13 : decode cX3_passedAhead 13 = .ok (.iload_n 1, 1) := by decide +kernel
theorem dX3_passedAhead_14 : decode cX3_passedAhead 14 = .ok (.iconst 1, 1) := by decide +kernel
theorem dX3_passedAhead_15 : decode cX3_passedAhead 15 = .ok (.isub, 1) := by decide +kernel
theorem dX3_passedAhead_16 : decode cX3_passedAhead 16 = .ok (.iconst 0, 1) := by decide +kernel
theorem dX3_passedAhead_17 : decode cX3_passedAhead 17 = .ok (.invokevirtual 44, 3) := by decide +kernel
theorem dX3_passedAhead_20 : decode cX3_passedAhead 20 = .ok (.invokevirtual 78, 3) := by decide +kernel
theorem dX3_passedAhead_23 : decode cX3_passedAhead 23 = .ok (.ireturn, 1) := by decide +kernel
set_option maxRecDepth 20000 in
theorem ggX3_seekGoal_X11_highOf : GoodIn wsX3_seekGoal wsX11_highOf := goodIn_r _ [9] (by decide +kernel) (by decide +kernel)
set_option maxRecDepth 20000 in
theorem gX3_seekGoal_X11_highOf_n63 : GoodIn wsX3_seekGoal (wsX11_highOf) := ggX3_seekGoal_X11_highOf
set_option maxRecDepth 20000 in
theorem ggX3_seekGoal_X11_didOf : GoodIn wsX3_seekGoal wsX11_didOf := goodIn_r _ [11] (by decide +kernel) (by decide +kernel)
set_option maxRecDepth 20000 in
theorem gX3_seekGoal_X11_didOf_n72 : GoodIn wsX3_seekGoal (wsX11_didOf) := ggX3_seekGoal_X11_didOf
set_option maxRecDepth 20000 in
theorem ggX3_seekGoal_X7_at : GoodIn wsX3_seekGoal wsX7_at := goodIn_r _ [16, 17, 18, 44, 45, 46, 47] (by decide +kernel) (by decide +kernel)
set_option maxRecDepth 20000 in
theorem gX3_seekGoal_X7_at : GoodIn wsX3_seekGoal (wsV RX3 44 RX7 yX7_at wsX7_at) := goodIn_app (goodIn_of _ (by decide +kernel)) ggX3_seekGoal_X7_at
set_option maxRecDepth 20000 in
theorem ggX3_seekGoal_X7_size : GoodIn wsX3_seekGoal wsX7_size := goodIn_r _ [22, 23, 44, 45, 46, 47] (by decide +kernel) (by decide +kernel)
set_option maxRecDepth 20000 in
theorem gX3_seekGoal_X7_size : GoodIn wsX3_seekGoal (wsV RX3 34 RX7 yX7_size wsX7_size) := goodIn_app (goodIn_of _ (by decide +kernel)) ggX3_seekGoal_X7_size
set_option maxRecDepth 20000 in
theorem ggX3_seekGoal_X11_stand : GoodIn wsX3_seekGoal wsX11_stand := goodIn_r _ [25] (by decide +kernel) (by decide +kernel)
set_option maxRecDepth 20000 in
theorem gX3_seekGoal_X11_stand_n75 : GoodIn wsX3_seekGoal (wsX11_stand) := ggX3_seekGoal_X11_stand
set_option maxRecDepth 20000 in
theorem ggX3_seekGoal_X3_fewestFrom : GoodIn wsX3_seekGoal wsX3_fewestFrom := goodIn_r _ [30, 31, 39, 40, 41, 42, 43] (by decide +kernel) (by decide +kernel)
set_option maxRecDepth 20000 in
theorem gX3_seekGoal_X3_fewestFrom : GoodIn wsX3_seekGoal (wsV RX3 81 RX3 yX3_fewestFrom wsX3_fewestFrom) := goodIn_app (goodIn_of _ (by decide +kernel)) ggX3_seekGoal_X3_fewestFrom
theorem dX3_seekGoal_0 : decode cX3_seekGoal 0 = .ok (.iload_n 3, 1) := by decide +kernel
theorem dX3_seekGoal_1 : decode cX3_seekGoal 1 = .ok (.invokestatic 63, 3) := by decide +kernel
theorem dX3_seekGoal_4 : decode cX3_seekGoal 4 = .ok (.istore 4, 2) := by decide +kernel
theorem dX3_seekGoal_6 : decode cX3_seekGoal 6 = .ok (.iload_n 3, 1) := by decide +kernel
theorem dX3_seekGoal_7 : decode cX3_seekGoal 7 = .ok (.invokestatic 72, 3) := by decide +kernel
theorem dX3_seekGoal_10 : decode cX3_seekGoal 10 = .ok (.istore 5, 2) := by decide +kernel
theorem dX3_seekGoal_12 : decode cX3_seekGoal 12 = .ok (.aload_n 1, 1) := by decide +kernel
theorem dX3_seekGoal_13 : decode cX3_seekGoal 13 = .ok (.getfield 28, 3) := by decide +kernel
theorem dX3_seekGoal_16 : decode cX3_seekGoal 16 = .ok (.iload_n 2, 1) := by decide +kernel
theorem dX3_seekGoal_17 : decode cX3_seekGoal 17 = .ok (.iconst 2, 1) := by decide +kernel
theorem dX3_seekGoal_18 : decode cX3_seekGoal 18 = .ok (.invokevirtual 44, 3) := by decide +kernel
theorem dX3_seekGoal_21 : decode cX3_seekGoal 21 = .ok (.istore 6, 2) := by decide +kernel
theorem dX3_seekGoal_23 : decode cX3_seekGoal 23 = .ok (.iload_n 2, 1) := by decide +kernel
theorem dX3_seekGoal_24 : decode cX3_seekGoal 24 = .ok (.iconst 1, 1) := by decide +kernel
theorem dX3_seekGoal_25 : decode cX3_seekGoal 25 = .ok (.iadd, 1) := by decide +kernel
theorem dX3_seekGoal_26 : decode cX3_seekGoal 26 = .ok (.aload_n 1, 1) := by decide +kernel
theorem dX3_seekGoal_27 : decode cX3_seekGoal 27 = .ok (.getfield 28, 3) := by decide +kernel
theorem dX3_seekGoal_30 : decode cX3_seekGoal 30 = .ok (.invokevirtual 34, 3) := by decide +kernel
theorem dX3_seekGoal_33 : decode cX3_seekGoal 33 = .ok (.if_icmp .lt 7, 3) := by decide +kernel
theorem dX3_seekGoal_36 : decode cX3_seekGoal 36 = .ok (.iconst 1, 1) := by decide +kernel
theorem dX3_seekGoal_37 : decode cX3_seekGoal 37 = .ok (.goto 4, 3) := by decide +kernel
theorem dX3_seekGoal_40 : decode cX3_seekGoal 40 = .ok (.iconst 0, 1) := by decide +kernel
theorem dX3_seekGoal_41 : decode cX3_seekGoal 41 = .ok (.istore 7, 2) := by decide +kernel
theorem dX3_seekGoal_43 : decode cX3_seekGoal 43 = .ok (.aload_n 0, 1) := by decide +kernel
theorem dX3_seekGoal_44 : decode cX3_seekGoal 44 = .ok (.sipush 155, 3) := by decide +kernel
theorem dX3_seekGoal_47 : decode cX3_seekGoal 47 = .ok (.putfield 25, 3) := by decide +kernel
theorem dX3_seekGoal_50 : decode cX3_seekGoal 50 = .ok (.aload_n 1, 1) := by decide +kernel
theorem dX3_seekGoal_51 : decode cX3_seekGoal 51 = .ok (.getfield 28, 3) := by decide +kernel
theorem dX3_seekGoal_54 : decode cX3_seekGoal 54 = .ok (.iload_n 2, 1) := by decide +kernel
theorem dX3_seekGoal_55 : decode cX3_seekGoal 55 = .ok (.iconst 1, 1) := by decide +kernel
theorem dX3_seekGoal_56 : decode cX3_seekGoal 56 = .ok (.invokevirtual 44, 3) := by decide +kernel
theorem dX3_seekGoal_59 : decode cX3_seekGoal 59 = .ok (.istore 8, 2) := by decide +kernel
theorem dX3_seekGoal_61 : decode cX3_seekGoal 61 = .ok (.iload 8, 2) := by decide +kernel
theorem dX3_seekGoal_63 : decode cX3_seekGoal 63 = .ok (.iload 6, 2) := by decide +kernel
theorem dX3_seekGoal_65 : decode cX3_seekGoal 65 = .ok (.if_icmp .gt 69, 3) := by decide +kernel
theorem dX3_seekGoal_68 : decode cX3_seekGoal 68 = .ok (.iload 8, 2) := by decide +kernel
theorem dX3_seekGoal_70 : decode cX3_seekGoal 70 = .ok (.iload 4, 2) := by decide +kernel
theorem dX3_seekGoal_72 : decode cX3_seekGoal 72 = .ok (.isub, 1) := by decide +kernel
theorem dX3_seekGoal_73 : decode cX3_seekGoal 73 = .ok (.invokestatic 67, 3) := by decide +kernel
theorem dX3_seekGoal_76 : decode cX3_seekGoal 76 = .ok (.istore 9, 2) := by decide +kernel
theorem dX3_seekGoal_78 : decode cX3_seekGoal 78 = .ok (.iload 7, 2) := by decide +kernel
theorem dX3_seekGoal_80 : decode cX3_seekGoal 80 = .ok (.ifCond .eq 8, 3) := by decide +kernel
theorem dX3_seekGoal_83 : decode cX3_seekGoal 83 = .ok (.iload 9, 2) := by decide +kernel
theorem dX3_seekGoal_85 : decode cX3_seekGoal 85 = .ok (.goto 20, 3) := by decide +kernel
theorem dX3_seekGoal_88 : decode cX3_seekGoal 88 = .ok (.iload 9, 2) := by decide +kernel
theorem dX3_seekGoal_90 : decode cX3_seekGoal 90 = .ok (.aload_n 0, 1) := by decide +kernel
theorem dX3_seekGoal_91 : decode cX3_seekGoal 91 = .ok (.iload_n 2, 1) := by decide +kernel
theorem dX3_seekGoal_92 : decode cX3_seekGoal 92 = .ok (.iconst 1, 1) := by decide +kernel
theorem dX3_seekGoal_93 : decode cX3_seekGoal 93 = .ok (.iadd, 1) := by decide +kernel
theorem dX3_seekGoal_94 : decode cX3_seekGoal 94 = .ok (.iload 8, 2) := by decide +kernel
theorem dX3_seekGoal_96 : decode cX3_seekGoal 96 = .ok (.iload 5, 2) := by decide +kernel
theorem dX3_seekGoal_98 : decode cX3_seekGoal 98 = .ok (.invokestatic 75, 3) := by decide +kernel
theorem dX3_seekGoal_101 : decode cX3_seekGoal 101 = .ok (.invokevirtual 81, 3) := by decide +kernel
theorem dX3_seekGoal_104 : decode cX3_seekGoal 104 = .ok (.iadd, 1) := by decide +kernel
theorem dX3_seekGoal_105 : decode cX3_seekGoal 105 = .ok (.istore 10, 2) := by decide +kernel
theorem dX3_seekGoal_107 : decode cX3_seekGoal 107 = .ok (.iload 10, 2) := by decide +kernel
theorem dX3_seekGoal_109 : decode cX3_seekGoal 109 = .ok (.aload_n 0, 1) := by decide +kernel
theorem dX3_seekGoal_110 : decode cX3_seekGoal 110 = .ok (.getfield 25, 3) := by decide +kernel
theorem dX3_seekGoal_113 : decode cX3_seekGoal 113 = .ok (.if_icmp .ge 15, 3) := by decide +kernel
theorem dX3_seekGoal_116 : decode cX3_seekGoal 116 = .ok (.aload_n 0, 1) := by decide +kernel
theorem dX3_seekGoal_117 : decode cX3_seekGoal 117 = .ok (.iload 8, 2) := by decide +kernel
theorem dX3_seekGoal_119 : decode cX3_seekGoal 119 = .ok (.putfield 22, 3) := by decide +kernel
theorem dX3_seekGoal_122 : decode cX3_seekGoal 122 = .ok (.aload_n 0, 1) := by decide +kernel
theorem dX3_seekGoal_123 : decode cX3_seekGoal 123 = .ok (.iload 10, 2) := by decide +kernel
theorem dX3_seekGoal_125 : decode cX3_seekGoal 125 = .ok (.putfield 25, 3) := by decide +kernel
theorem dX3_seekGoal_128 : decode cX3_seekGoal 128 = .ok (.iinc 8 1, 3) := by decide +kernel
theorem dX3_seekGoal_131 : decode cX3_seekGoal 131 = .ok (.goto (-70), 3) := by decide +kernel
theorem dX3_seekGoal_134 : decode cX3_seekGoal 134 = .ok (.return_, 1) := by decide +kernel
theorem dX3_fewestFrom_0 : decode cX3_fewestFrom 0 = .ok (.iload_n 1, 1) := by decide +kernel
theorem dX3_fewestFrom_1 : decode cX3_fewestFrom 1 = .ok (.bipush 124, 2) := by decide +kernel
theorem dX3_fewestFrom_3 : decode cX3_fewestFrom 3 = .ok (.imul, 1) := by decide +kernel
theorem dX3_fewestFrom_4 : decode cX3_fewestFrom 4 = .ok (.iload_n 2, 1) := by decide +kernel
theorem dX3_fewestFrom_5 : decode cX3_fewestFrom 5 = .ok (.iadd, 1) := by decide +kernel
theorem dX3_fewestFrom_6 : decode cX3_fewestFrom 6 = .ok (.istore_n 3, 1) := by decide +kernel
theorem dX3_fewestFrom_7 : decode cX3_fewestFrom 7 = .ok (.iload_n 3, 1) := by decide +kernel
theorem dX3_fewestFrom_8 : decode cX3_fewestFrom 8 = .ok (.ifCond .lt 21, 3) := by decide +kernel
theorem dX3_fewestFrom_11 : decode cX3_fewestFrom 11 = .ok (.iload_n 3, 1) := by decide +kernel
theorem dX3_fewestFrom_12 : decode cX3_fewestFrom 12 = .ok (.aload_n 0, 1) := by decide +kernel
theorem dX3_fewestFrom_13 : decode cX3_fewestFrom 13 = .ok (.getfield 9, 3) := by decide +kernel
theorem dX3_fewestFrom_16 : decode cX3_fewestFrom 16 = .ok (.arraylength, 1) := by decide +kernel
theorem dX3_fewestFrom_17 : decode cX3_fewestFrom 17 = .ok (.if_icmp .ge 12, 3) := by decide +kernel
theorem dX3_fewestFrom_20 : decode cX3_fewestFrom 20 = .ok (.aload_n 0, 1) := by decide +kernel
theorem dX3_fewestFrom_21 : decode cX3_fewestFrom 21 = .ok (.getfield 9, 3) := by decide +kernel
theorem dX3_fewestFrom_24 : decode cX3_fewestFrom 24 = .ok (.iload_n 3, 1) := by decide +kernel
theorem dX3_fewestFrom_25 : decode cX3_fewestFrom 25 = .ok (.iaload, 1) := by decide +kernel
theorem dX3_fewestFrom_26 : decode cX3_fewestFrom 26 = .ok (.goto 4, 3) := by decide +kernel
theorem dX3_fewestFrom_29 : decode cX3_fewestFrom 29 = .ok (.iconst 0, 1) := by decide +kernel
theorem dX3_fewestFrom_30 : decode cX3_fewestFrom 30 = .ok (.ireturn, 1) := by decide +kernel
theorem dX3_keep_0 : decode cX3_keep 0 = .ok (.iload_n 1, 1) := by decide +kernel
theorem dX3_keep_1 : decode cX3_keep 1 = .ok (.bipush 124, 2) := by decide +kernel
theorem dX3_keep_3 : decode cX3_keep 3 = .ok (.imul, 1) := by decide +kernel
theorem dX3_keep_4 : decode cX3_keep 4 = .ok (.iload_n 2, 1) := by decide +kernel
theorem dX3_keep_5 : decode cX3_keep 5 = .ok (.iadd, 1) := by decide +kernel
theorem dX3_keep_6 : decode cX3_keep 6 = .ok (.istore 4, 2) := by decide +kernel
theorem dX3_keep_8 : decode cX3_keep 8 = .ok (.iload 4, 2) := by decide +kernel
theorem dX3_keep_10 : decode cX3_keep 10 = .ok (.ifCond .lt 21, 3) := by decide +kernel
theorem dX3_keep_13 : decode cX3_keep 13 = .ok (.iload 4, 2) := by decide +kernel
theorem dX3_keep_15 : decode cX3_keep 15 = .ok (.aload_n 0, 1) := by decide +kernel
theorem dX3_keep_16 : decode cX3_keep 16 = .ok (.getfield 9, 3) := by decide +kernel
theorem dX3_keep_19 : decode cX3_keep 19 = .ok (.arraylength, 1) := by decide +kernel
theorem dX3_keep_20 : decode cX3_keep 20 = .ok (.if_icmp .ge 11, 3) := by decide +kernel
theorem dX3_keep_23 : decode cX3_keep 23 = .ok (.aload_n 0, 1) := by decide +kernel
theorem dX3_keep_24 : decode cX3_keep 24 = .ok (.getfield 9, 3) := by decide +kernel
theorem dX3_keep_27 : decode cX3_keep 27 = .ok (.iload 4, 2) := by decide +kernel
theorem dX3_keep_29 : decode cX3_keep 29 = .ok (.iload_n 3, 1) := by decide +kernel
theorem dX3_keep_30 : decode cX3_keep 30 = .ok (.iastore, 1) := by decide +kernel
theorem dX3_keep_31 : decode cX3_keep 31 = .ok (.return_, 1) := by decide +kernel
set_option maxRecDepth 20000 in
theorem ggX4_init_X9_init : GoodIn wsX4_init wsX9_init := goodIn_r _ [3, 4, 5, 6] (by decide +kernel) (by decide +kernel)
set_option maxRecDepth 20000 in
theorem gX4_init_X9_init_n1 : GoodIn wsX4_init (wsX9_init) := ggX4_init_X9_init
theorem dX4_init_0 : decode cX4_init 0 = .ok (.aload_n 0, 1) := by decide +kernel
theorem dX4_init_1 : decode cX4_init 1 = .ok (.invokespecial 1, 3) := by decide +kernel
theorem dX4_init_4 : decode cX4_init 4 = .ok (.return_, 1) := by decide +kernel
set_option maxRecDepth 20000 in
theorem ggX4_act_X9_layOne : GoodIn wsX4_act wsX9_layOne := goodIn_r _ [6] (by decide +kernel) (by decide +kernel)
set_option maxRecDepth 20000 in
theorem gX4_act_X9_layOne_u7X0 : GoodIn wsX4_act (va_wsU RX4 7 RX0 "PassStones$Taker" ⟨"PassStones$Layer", "layOne", "(I)I"⟩ yX9_layOne wsX9_layOne) := goodIn_app (goodIn_of _ (by decide +kernel)) ggX4_act_X9_layOne
set_option maxRecDepth 20000 in
theorem gX4_act_X9_layOne_u7X4 : GoodIn wsX4_act (va_wsU RX4 7 RX4 "PassStones$Taker" ⟨"PassStones$Layer", "layOne", "(I)I"⟩ yX9_layOne wsX9_layOne) := goodIn_app (goodIn_of _ (by decide +kernel)) ggX4_act_X9_layOne
set_option maxRecDepth 20000 in
theorem gX4_act_X9_layOne_u7X10 : GoodIn wsX4_act (va_wsU RX4 7 RX10 "PassStones$Taker" ⟨"PassStones$Layer", "layOne", "(I)I"⟩ yX9_layOne wsX9_layOne) := goodIn_app (goodIn_of _ (by decide +kernel)) ggX4_act_X9_layOne
set_option maxRecDepth 20000 in
theorem ggX4_act_X9_act : GoodIn wsX4_act wsX9_act := goodIn_r _ [13, 14, 15, 16, 17, 5, 18, 19, 20, 21, 22, 23, 24] (by decide +kernel) (by decide +kernel)
set_option maxRecDepth 20000 in
theorem gX4_act_X9_act_s13 : GoodIn wsX4_act (va_wsSU RX4 13 yX9_act wsX9_act) := goodIn_app (goodIn_of _ (by decide +kernel)) ggX4_act_X9_act
theorem dX4_act_0 : decode cX4_act 0 = .ok (.iload_n 2, 1) := by decide +kernel
theorem dX4_act_1 : decode cX4_act 1 = .ok (.iconst 1, 1) := by decide +kernel
theorem dX4_act_2 : decode cX4_act 2 = .ok (.if_icmp .ne 12, 3) := by decide +kernel
theorem dX4_act_5 : decode cX4_act 5 = .ok (.aload_n 0, 1) := by decide +kernel
theorem dX4_act_6 : decode cX4_act 6 = .ok (.iload 4, 2) := by decide +kernel
theorem dX4_act_8 : decode cX4_act 8 = .ok (.invokevirtual 7, 3) := by decide +kernel
theorem dX4_act_11 : decode cX4_act 11 = .ok (.goto 14, 3) := by decide +kernel
theorem dX4_act_14 : decode cX4_act 14 = .ok (.aload_n 0, 1) := by decide +kernel
theorem dX4_act_15 : decode cX4_act 15 = .ok (.iload_n 1, 1) := by decide +kernel
theorem dX4_act_16 : decode cX4_act 16 = .ok (.iload_n 2, 1) := by decide +kernel
theorem dX4_act_17 : decode cX4_act 17 = .ok (.iload_n 3, 1) := by decide +kernel
theorem dX4_act_18 : decode cX4_act 18 = .ok (.iload 4, 2) := by decide +kernel
theorem dX4_act_20 : decode cX4_act 20 = .ok (.iload 5, 2) := by decide +kernel
theorem dX4_act_22 : decode cX4_act 22 = .ok (.invokespecial 13, 3) := by decide +kernel
theorem dX4_act_25 : decode cX4_act 25 = .ok (.ireturn, 1) := by decide +kernel
set_option maxRecDepth 20000 in
theorem ggX5_init_X7_init : GoodIn wsX5_init wsX7_init := goodIn_r _ [16, 17, 2, 3, 18, 19, 20, 21, 22, 23, 24, 25, 26, 27, 28, 29, 30] (by decide +kernel) (by decide +kernel)
set_option maxRecDepth 20000 in
theorem gX5_init_X7_init : GoodIn wsX5_init (wsX7_init) := ggX5_init_X7_init
theorem dX5_init_0 : decode cX5_init 0 = .ok (.aload_n 0, 1) := by decide +kernel
theorem dX5_init_1 : decode cX5_init 1 = .ok (.invokespecial 3, 3) := by decide +kernel
theorem dX5_init_4 : decode cX5_init 4 = .ok (.aload_n 0, 1) := by decide +kernel
theorem dX5_init_5 : decode cX5_init 5 = .ok (.new 9, 3) := by decide +kernel
theorem dX5_init_8 : decode cX5_init 8 = .ok (.dup, 1) := by decide +kernel
theorem dX5_init_9 : decode cX5_init 9 = .ok (.bipush 12, 2) := by decide +kernel
theorem dX5_init_11 : decode cX5_init 11 = .ok (.bipush 6, 2) := by decide +kernel
theorem dX5_init_13 : decode cX5_init 13 = .ok (.invokespecial 11, 3) := by decide +kernel
theorem dX5_init_16 : decode cX5_init 16 = .ok (.putfield 14, 3) := by decide +kernel
theorem dX5_init_19 : decode cX5_init 19 = .ok (.aload_n 0, 1) := by decide +kernel
theorem dX5_init_20 : decode cX5_init 20 = .ok (.new 9, 3) := by decide +kernel
theorem dX5_init_23 : decode cX5_init 23 = .ok (.dup, 1) := by decide +kernel
theorem dX5_init_24 : decode cX5_init 24 = .ok (.iconst 4, 1) := by decide +kernel
theorem dX5_init_25 : decode cX5_init 25 = .ok (.iconst 2, 1) := by decide +kernel
theorem dX5_init_26 : decode cX5_init 26 = .ok (.invokespecial 11, 3) := by decide +kernel
theorem dX5_init_29 : decode cX5_init 29 = .ok (.putfield 20, 3) := by decide +kernel
theorem dX5_init_32 : decode cX5_init 32 = .ok (.aload_n 0, 1) := by decide +kernel
theorem dX5_init_33 : decode cX5_init 33 = .ok (.new 9, 3) := by decide +kernel
theorem dX5_init_36 : decode cX5_init 36 = .ok (.dup, 1) := by decide +kernel
theorem dX5_init_37 : decode cX5_init 37 = .ok (.iconst 5, 1) := by decide +kernel
theorem dX5_init_38 : decode cX5_init 38 = .ok (.iconst 3, 1) := by decide +kernel
theorem dX5_init_39 : decode cX5_init 39 = .ok (.invokespecial 11, 3) := by decide +kernel
theorem dX5_init_42 : decode cX5_init 42 = .ok (.putfield 23, 3) := by decide +kernel
theorem dX5_init_45 : decode cX5_init 45 = .ok (.aload_n 0, 1) := by decide +kernel
theorem dX5_init_46 : decode cX5_init 46 = .ok (.new 9, 3) := by decide +kernel
theorem dX5_init_49 : decode cX5_init 49 = .ok (.dup, 1) := by decide +kernel
theorem dX5_init_50 : decode cX5_init 50 = .ok (.bipush 6, 2) := by decide +kernel
theorem dX5_init_52 : decode cX5_init 52 = .ok (.iconst 2, 1) := by decide +kernel
theorem dX5_init_53 : decode cX5_init 53 = .ok (.invokespecial 11, 3) := by decide +kernel
theorem dX5_init_56 : decode cX5_init 56 = .ok (.putfield 26, 3) := by decide +kernel
theorem dX5_init_59 : decode cX5_init 59 = .ok (.aload_n 0, 1) := by decide +kernel
theorem dX5_init_60 : decode cX5_init 60 = .ok (.bipush 10, 2) := by decide +kernel
theorem dX5_init_62 : decode cX5_init 62 = .ok (.putfield 29, 3) := by decide +kernel
theorem dX5_init_65 : decode cX5_init 65 = .ok (.aload_n 0, 1) := by decide +kernel
theorem dX5_init_66 : decode cX5_init 66 = .ok (.iconst 0, 1) := by decide +kernel
theorem dX5_init_67 : decode cX5_init 67 = .ok (.putfield 33, 3) := by decide +kernel
theorem dX5_init_70 : decode cX5_init 70 = .ok (.aload_n 0, 1) := by decide +kernel
theorem dX5_init_71 : decode cX5_init 71 = .ok (.aload_n 1, 1) := by decide +kernel
theorem dX5_init_72 : decode cX5_init 72 = .ok (.putfield 36, 3) := by decide +kernel
theorem dX5_init_75 : decode cX5_init 75 = .ok (.return_, 1) := by decide +kernel
set_option maxRecDepth 20000 in
theorem ggX5_makeNew_X7_dropAll : GoodIn wsX5_makeNew wsX7_dropAll := goodIn_r _ [11, 12, 20, 21, 22, 23] (by decide +kernel) (by decide +kernel)
set_option maxRecDepth 20000 in
theorem gX5_makeNew_X7_dropAll : GoodIn wsX5_makeNew (wsV RX5 40 RX7 yX7_dropAll wsX7_dropAll) := goodIn_app (goodIn_of _ (by decide +kernel)) ggX5_makeNew_X7_dropAll
theorem dX5_makeNew_0 : decode cX5_makeNew 0 = .ok (.aload_n 0, 1) := by decide +kernel
theorem dX5_makeNew_1 : decode cX5_makeNew 1 = .ok (.bipush 10, 2) := by decide +kernel
theorem dX5_makeNew_3 : decode cX5_makeNew 3 = .ok (.putfield 29, 3) := by decide +kernel
theorem dX5_makeNew_6 : decode cX5_makeNew 6 = .ok (.aload_n 0, 1) := by decide +kernel
theorem dX5_makeNew_7 : decode cX5_makeNew 7 = .ok (.iconst 0, 1) := by decide +kernel
theorem dX5_makeNew_8 : decode cX5_makeNew 8 = .ok (.putfield 33, 3) := by decide +kernel
theorem dX5_makeNew_11 : decode cX5_makeNew 11 = .ok (.aload_n 0, 1) := by decide +kernel
theorem dX5_makeNew_12 : decode cX5_makeNew 12 = .ok (.getfield 14, 3) := by decide +kernel
theorem dX5_makeNew_15 : decode cX5_makeNew 15 = .ok (.invokevirtual 40, 3) := by decide +kernel
theorem dX5_makeNew_18 : decode cX5_makeNew 18 = .ok (.aload_n 0, 1) := by decide +kernel
theorem dX5_makeNew_19 : decode cX5_makeNew 19 = .ok (.getfield 20, 3) := by decide +kernel
theorem dX5_makeNew_22 : decode cX5_makeNew 22 = .ok (.invokevirtual 40, 3) := by decide +kernel
theorem dX5_makeNew_25 : decode cX5_makeNew 25 = .ok (.aload_n 0, 1) := by decide +kernel
theorem dX5_makeNew_26 : decode cX5_makeNew 26 = .ok (.getfield 23, 3) := by decide +kernel
theorem dX5_makeNew_29 : decode cX5_makeNew 29 = .ok (.invokevirtual 40, 3) := by decide +kernel
theorem dX5_makeNew_32 : decode cX5_makeNew 32 = .ok (.aload_n 0, 1) := by decide +kernel
theorem dX5_makeNew_33 : decode cX5_makeNew 33 = .ok (.getfield 26, 3) := by decide +kernel
theorem dX5_makeNew_36 : decode cX5_makeNew 36 = .ok (.invokevirtual 40, 3) := by decide +kernel
theorem dX5_makeNew_39 : decode cX5_makeNew 39 = .ok (.return_, 1) := by decide +kernel
set_option maxRecDepth 20000 in
theorem ggX5_become_X7_become : GoodIn wsX5_become wsX7_become := goodIn_r _ [11, 12, 13, 14, 15, 16, 17, 18, 26, 27, 28, 29] (by decide +kernel) (by decide +kernel)
set_option maxRecDepth 20000 in
theorem gX5_become_X7_become : GoodIn wsX5_become (wsV RX5 43 RX7 yX7_become wsX7_become) := goodIn_app (goodIn_of _ (by decide +kernel)) ggX5_become_X7_become
theorem dX5_become_0 : decode cX5_become 0 = .ok (.aload_n 0, 1) := by decide +kernel
theorem dX5_become_1 : decode cX5_become 1 = .ok (.aload_n 1, 1) := by decide +kernel
theorem dX5_become_2 : decode cX5_become 2 = .ok (.getfield 29, 3) := by decide +kernel
theorem dX5_become_5 : decode cX5_become 5 = .ok (.putfield 29, 3) := by decide +kernel
theorem dX5_become_8 : decode cX5_become 8 = .ok (.aload_n 0, 1) := by decide +kernel
theorem dX5_become_9 : decode cX5_become 9 = .ok (.aload_n 1, 1) := by decide +kernel
theorem dX5_become_10 : decode cX5_become 10 = .ok (.getfield 33, 3) := by decide +kernel
theorem dX5_become_13 : decode cX5_become 13 = .ok (.putfield 33, 3) := by decide +kernel
theorem dX5_become_16 : decode cX5_become 16 = .ok (.aload_n 0, 1) := by decide +kernel
theorem dX5_become_17 : decode cX5_become 17 = .ok (.getfield 14, 3) := by decide +kernel
theorem dX5_become_20 : decode cX5_become 20 = .ok (.aload_n 1, 1) := by decide +kernel
theorem dX5_become_21 : decode cX5_become 21 = .ok (.getfield 14, 3) := by decide +kernel
theorem dX5_become_24 : decode cX5_become 24 = .ok (.invokevirtual 43, 3) := by decide +kernel
theorem dX5_become_27 : decode cX5_become 27 = .ok (.aload_n 0, 1) := by decide +kernel
theorem dX5_become_28 : decode cX5_become 28 = .ok (.getfield 20, 3) := by decide +kernel
theorem dX5_become_31 : decode cX5_become 31 = .ok (.aload_n 1, 1) := by decide +kernel
theorem dX5_become_32 : decode cX5_become 32 = .ok (.getfield 20, 3) := by decide +kernel
theorem dX5_become_35 : decode cX5_become 35 = .ok (.invokevirtual 43, 3) := by decide +kernel
theorem dX5_become_38 : decode cX5_become 38 = .ok (.aload_n 0, 1) := by decide +kernel
theorem dX5_become_39 : decode cX5_become 39 = .ok (.getfield 23, 3) := by decide +kernel
theorem dX5_become_42 : decode cX5_become 42 = .ok (.aload_n 1, 1) := by decide +kernel
theorem dX5_become_43 : decode cX5_become 43 = .ok (.getfield 23, 3) := by decide +kernel
theorem dX5_become_46 : decode cX5_become 46 = .ok (.invokevirtual 43, 3) := by decide +kernel
theorem dX5_become_49 : decode cX5_become 49 = .ok (.aload_n 0, 1) := by decide +kernel
theorem dX5_become_50 : decode cX5_become 50 = .ok (.getfield 26, 3) := by decide +kernel
theorem dX5_become_53 : decode cX5_become 53 = .ok (.aload_n 1, 1) := by decide +kernel
theorem dX5_become_54 : decode cX5_become 54 = .ok (.getfield 26, 3) := by decide +kernel
theorem dX5_become_57 : decode cX5_become 57 = .ok (.invokevirtual 43, 3) := by decide +kernel
theorem dX5_become_60 : decode cX5_become 60 = .ok (.return_, 1) := by decide +kernel
set_option maxRecDepth 20000 in
theorem ggX5_setHigh_X11_isHigh : GoodIn wsX5_setHigh wsX11_isHigh := goodIn_r _ [4, 5, 6, 3, 7] (by decide +kernel) (by decide +kernel)
set_option maxRecDepth 20000 in
theorem gX5_setHigh_X11_isHigh_n47 : GoodIn wsX5_setHigh (wsX11_isHigh) := ggX5_setHigh_X11_isHigh
theorem dX5_setHigh_0 : decode cX5_setHigh 0 = .ok (.iload_n 1, 1) := by decide +kernel
theorem dX5_setHigh_1 : decode cX5_setHigh 1 = .ok (.invokestatic 47, 3) := by decide +kernel
theorem dX5_setHigh_4 : decode cX5_setHigh 4 = .ok (.ifCond .ne 6, 3) := by decide +kernel
theorem dX5_setHigh_7 : decode cX5_setHigh 7 = .ok (.bipush (-2), 2) := by decide +kernel
theorem dX5_setHigh_9 : decode cX5_setHigh 9 = .ok (.ireturn, 1) := by decide +kernel
theorem dX5_setHigh_10 : decode cX5_setHigh 10 = .ok (.aload_n 0, 1) := by decide +kernel
theorem dX5_setHigh_11 : decode cX5_setHigh 11 = .ok (.getfield 29, 3) := by decide +kernel
theorem dX5_setHigh_14 : decode cX5_setHigh 14 = .ok (.istore_n 2, 1) := by decide +kernel
theorem dX5_setHigh_15 : decode cX5_setHigh 15 = .ok (.aload_n 0, 1) := by decide +kernel
theorem dX5_setHigh_16 : decode cX5_setHigh 16 = .ok (.iload_n 1, 1) := by decide +kernel
theorem dX5_setHigh_17 : decode cX5_setHigh 17 = .ok (.putfield 29, 3) := by decide +kernel
theorem dX5_setHigh_20 : decode cX5_setHigh 20 = .ok (.iload_n 2, 1) := by decide +kernel
theorem dX5_setHigh_21 : decode cX5_setHigh 21 = .ok (.ireturn, 1) := by decide +kernel
set_option maxRecDepth 20000 in
theorem ggX5_setLow_X11_isHigh : GoodIn wsX5_setLow wsX11_isHigh := goodIn_r _ [4, 5, 6, 3, 7] (by decide +kernel) (by decide +kernel)
set_option maxRecDepth 20000 in
theorem gX5_setLow_X11_isHigh_n47 : GoodIn wsX5_setLow (wsX11_isHigh) := ggX5_setLow_X11_isHigh
theorem dX5_setLow_0 : decode cX5_setLow 0 = .ok (.iload_n 1, 1) := by decide +kernel
theorem dX5_setLow_1 : decode cX5_setLow 1 = .ok (.invokestatic 47, 3) := by decide +kernel
theorem dX5_setLow_4 : decode cX5_setLow 4 = .ok (.ifCond .ne 6, 3) := by decide +kernel
theorem dX5_setLow_7 : decode cX5_setLow 7 = .ok (.bipush (-2), 2) := by decide +kernel
theorem dX5_setLow_9 : decode cX5_setLow 9 = .ok (.ireturn, 1) := by decide +kernel
theorem dX5_setLow_10 : decode cX5_setLow 10 = .ok (.aload_n 0, 1) := by decide +kernel
theorem dX5_setLow_11 : decode cX5_setLow 11 = .ok (.getfield 33, 3) := by decide +kernel
theorem dX5_setLow_14 : decode cX5_setLow 14 = .ok (.istore_n 2, 1) := by decide +kernel
theorem dX5_setLow_15 : decode cX5_setLow 15 = .ok (.aload_n 0, 1) := by decide +kernel
theorem dX5_setLow_16 : decode cX5_setLow 16 = .ok (.iload_n 1, 1) := by decide +kernel
theorem dX5_setLow_17 : decode cX5_setLow 17 = .ok (.putfield 33, 3) := by decide +kernel
theorem dX5_setLow_20 : decode cX5_setLow 20 = .ok (.iload_n 2, 1) := by decide +kernel
theorem dX5_setLow_21 : decode cX5_setLow 21 = .ok (.ireturn, 1) := by decide +kernel
set_option maxRecDepth 20000 in
theorem ggX5_addPasser_X11_isMinute : GoodIn wsX5_addPasser wsX11_isMinute := goodIn_r _ [5, 6, 7, 4, 8] (by decide +kernel) (by decide +kernel)
set_option maxRecDepth 20000 in
theorem gX5_addPasser_X11_isMinute_n51 : GoodIn wsX5_addPasser (wsX11_isMinute) := ggX5_addPasser_X11_isMinute
set_option maxRecDepth 20000 in
theorem ggX5_addPasser_X7_lastAt : GoodIn wsX5_addPasser wsX7_lastAt := goodIn_r _ [13, 14, 15, 16, 17, 12, 18, 19, 20, 43, 44, 45, 46] (by decide +kernel) (by decide +kernel)
set_option maxRecDepth 20000 in
theorem gX5_addPasser_X7_lastAt : GoodIn wsX5_addPasser (wsV RX5 54 RX7 yX7_lastAt wsX7_lastAt) := goodIn_app (goodIn_of _ (by decide +kernel)) ggX5_addPasser_X7_lastAt
set_option maxRecDepth 20000 in
theorem ggX5_addPasser_X11_within : GoodIn wsX5_addPasser wsX11_within := goodIn_r _ [8] (by decide +kernel) (by decide +kernel)
set_option maxRecDepth 20000 in
theorem gX5_addPasser_X11_within_n58 : GoodIn wsX5_addPasser (wsX11_within) := ggX5_addPasser_X11_within
set_option maxRecDepth 20000 in
theorem ggX5_addPasser_X11_isHigh : GoodIn wsX5_addPasser wsX11_isHigh := goodIn_r _ [22, 6, 7, 4, 8] (by decide +kernel) (by decide +kernel)
set_option maxRecDepth 20000 in
theorem gX5_addPasser_X11_isHigh_n47 : GoodIn wsX5_addPasser (wsX11_isHigh) := ggX5_addPasser_X11_isHigh
set_option maxRecDepth 20000 in
theorem ggX5_addPasser_X7_open : GoodIn wsX5_addPasser wsX7_open := goodIn_r _ [26, 14, 27, 28, 29, 12, 30, 31, 43, 44, 45, 46] (by decide +kernel) (by decide +kernel)
set_option maxRecDepth 20000 in
theorem gX5_addPasser_X7_open : GoodIn wsX5_addPasser (wsV RX5 62 RX7 yX7_open wsX7_open) := goodIn_app (goodIn_of _ (by decide +kernel)) ggX5_addPasser_X7_open
set_option maxRecDepth 20000 in
theorem ggX5_addPasser_X7_put : GoodIn wsX5_addPasser wsX7_put := goodIn_r _ [35, 19, 20, 43, 44, 45, 46] (by decide +kernel) (by decide +kernel)
set_option maxRecDepth 20000 in
theorem gX5_addPasser_X7_put : GoodIn wsX5_addPasser (wsV RX5 66 RX7 yX7_put wsX7_put) := goodIn_app (goodIn_of _ (by decide +kernel)) ggX5_addPasser_X7_put
theorem dX5_addPasser_0 : decode cX5_addPasser 0 = .ok (.iload_n 1, 1) := by decide +kernel
theorem dX5_addPasser_1 : decode cX5_addPasser 1 = .ok (.invokestatic 51, 3) := by decide +kernel
theorem dX5_addPasser_4 : decode cX5_addPasser 4 = .ok (.ifCond .eq 19, 3) := by decide +kernel
theorem dX5_addPasser_7 : decode cX5_addPasser 7 = .ok (.iload_n 1, 1) := by decide +kernel
theorem dX5_addPasser_8 : decode cX5_addPasser 8 = .ok (.aload_n 0, 1) := by decide +kernel
theorem dX5_addPasser_9 : decode cX5_addPasser 9 = .ok (.getfield 14, 3) := by decide +kernel
theorem dX5_addPasser_12 : decode cX5_addPasser 12 = .ok (.iconst 0, 1) := by decide +kernel
theorem dX5_addPasser_13 : decode cX5_addPasser 13 = .ok (.invokevirtual 54, 3) := by decide +kernel
theorem dX5_addPasser_16 : decode cX5_addPasser 16 = .ok (.if_icmp .lt 7, 3) := by decide +kernel
theorem dX5_addPasser_19 : decode cX5_addPasser 19 = .ok (.iconst 1, 1) := by decide +kernel
theorem dX5_addPasser_20 : decode cX5_addPasser 20 = .ok (.goto 4, 3) := by decide +kernel
theorem dX5_addPasser_23 : decode cX5_addPasser 23 = .ok (.iconst 0, 1) := by decide +kernel
theorem dX5_addPasser_24 : decode cX5_addPasser 24 = .ok (.istore 5, 2) := by decide +kernel
theorem dX5_addPasser_26 : decode cX5_addPasser 26 = .ok (.iload 5, 2) := by decide +kernel
theorem dX5_addPasser_28 : decode cX5_addPasser 28 = .ok (.ifCond .eq 35, 3) := by decide +kernel
theorem dX5_addPasser_31 : decode cX5_addPasser 31 = .ok (.iload_n 2, 1) := by decide +kernel
theorem dX5_addPasser_32 : decode cX5_addPasser 32 = .ok (.iconst 0, 1) := by decide +kernel
theorem dX5_addPasser_33 : decode cX5_addPasser 33 = .ok (.aload_n 0, 1) := by decide +kernel
theorem dX5_addPasser_34 : decode cX5_addPasser 34 = .ok (.getfield 36, 3) := by decide +kernel
theorem dX5_addPasser_37 : decode cX5_addPasser 37 = .ok (.arraylength, 1) := by decide +kernel
theorem dX5_addPasser_38 : decode cX5_addPasser 38 = .ok (.iconst 1, 1) := by decide +kernel
theorem dX5_addPasser_39 : decode cX5_addPasser 39 = .ok (.isub, 1) := by decide +kernel
theorem dX5_addPasser_40 : decode cX5_addPasser 40 = .ok (.invokestatic 58, 3) := by decide +kernel
theorem dX5_addPasser_43 : decode cX5_addPasser 43 = .ok (.ifCond .eq 20, 3) := by decide +kernel
theorem dX5_addPasser_46 : decode cX5_addPasser 46 = .ok (.iload_n 3, 1) := by decide +kernel
theorem dX5_addPasser_47 : decode cX5_addPasser 47 = .ok (.iconst 0, 1) := by decide +kernel
theorem dX5_addPasser_48 : decode cX5_addPasser 48 = .ok (.iconst 1, 1) := by decide +kernel
theorem dX5_addPasser_49 : decode cX5_addPasser 49 = .ok (.invokestatic 58, 3) := by decide +kernel
theorem dX5_addPasser_52 : decode cX5_addPasser 52 = .ok (.ifCond .eq 11, 3) := by decide +kernel
theorem dX5_addPasser_55 : decode cX5_addPasser 55 = .ok (.iload 4, 2) := by decide +kernel
theorem dX5_addPasser_57 : decode cX5_addPasser 57 = .ok (.invokestatic 47, 3) := by decide +kernel
theorem dX5_addPasser_60 : decode cX5_addPasser 60 = .ok (.ifCond .ne 6, 3) := by decide +kernel
theorem dX5_addPasser_63 : decode cX5_addPasser 63 = .ok (.bipush (-2), 2) := by decide +kernel
theorem dX5_addPasser_65 : decode cX5_addPasser 65 = .ok (.ireturn, 1) := by decide +kernel
theorem dX5_addPasser_66 : decode cX5_addPasser 66 = .ok (.aload_n 0, 1) := by decide +kernel
theorem dX5_addPasser_67 : decode cX5_addPasser 67 = .ok (.getfield 14, 3) := by decide +kernel
theorem dX5_addPasser_70 : decode cX5_addPasser 70 = .ok (.invokevirtual 62, 3) := by decide +kernel
theorem dX5_addPasser_73 : decode cX5_addPasser 73 = .ok (.istore 6, 2) := by decide +kernel
theorem dX5_addPasser_75 : decode cX5_addPasser 75 = .ok (.iload 6, 2) := by decide +kernel
theorem dX5_addPasser_77 : decode cX5_addPasser 77 = .ok (.bipush (-4), 2) := by decide +kernel
theorem dX5_addPasser_79 : decode cX5_addPasser 79 = .ok (.if_icmp .eq 70, 3) := by decide +kernel
theorem dX5_addPasser_82 : decode cX5_addPasser 82 = .ok (.aload_n 0, 1) := by decide +kernel
theorem dX5_addPasser_83 : decode cX5_addPasser 83 = .ok (.getfield 14, 3) := by decide +kernel
theorem dX5_addPasser_86 : decode cX5_addPasser 86 = .ok (.iload 6, 2) := by decide +kernel
theorem dX5_addPasser_88 : decode cX5_addPasser 88 = .ok (.iconst 0, 1) := by decide +kernel
theorem dX5_addPasser_89 : decode cX5_addPasser 89 = .ok (.iload_n 1, 1) := by decide +kernel
theorem dX5_addPasser_90 : decode cX5_addPasser 90 = .ok (.invokevirtual 66, 3) := by decide +kernel
theorem dX5_addPasser_93 : decode cX5_addPasser 93 = .ok (.aload_n 0, 1) := by decide +kernel
theorem dX5_addPasser_94 : decode cX5_addPasser 94 = .ok (.getfield 14, 3) := by decide +kernel
theorem dX5_addPasser_97 : decode cX5_addPasser 97 = .ok (.iload 6, 2) := by decide +kernel
theorem dX5_addPasser_99 : decode cX5_addPasser 99 = .ok (.iconst 1, 1) := by decide +kernel
theorem dX5_addPasser_100 : decode cX5_addPasser 100 = .ok (.iload_n 2, 1) := by decide +kernel
theorem dX5_addPasser_101 : decode cX5_addPasser 101 = .ok (.invokevirtual 66, 3) := by decide +kernel
theorem dX5_addPasser_104 : decode cX5_addPasser 104 = .ok (.aload_n 0, 1) := by decide +kernel
theorem dX5_addPasser_105 : decode cX5_addPasser 105 = .ok (.getfield 14, 3) := by decide +kernel
theorem dX5_addPasser_108 : decode cX5_addPasser 108 = .ok (.iload 6, 2) := by decide +kernel
theorem dX5_addPasser_110 : decode cX5_addPasser 110 = .ok (.iconst 2, 1) := by decide +kernel
theorem dX5_addPasser_111 : decode cX5_addPasser 111 = .ok (.iload_n 3, 1) := by decide +kernel
theorem dX5_addPasser_112 : decode cX5_addPasser 112 = .ok (.invokevirtual 66, 3) := by decide +kernel
theorem dX5_addPasser_115 : decode cX5_addPasser 115 = .ok (.aload_n 0, 1) := by decide +kernel
theorem dX5_addPasser_116 : decode cX5_addPasser 116 = .ok (.getfield 14, 3) := by decide +kernel
theorem dX5_addPasser_119 : decode cX5_addPasser 119 = .ok (.iload 6, 2) := by decide +kernel
theorem dX5_addPasser_121 : decode cX5_addPasser 121 = .ok (.iconst 3, 1) := by decide +kernel
theorem dX5_addPasser_122 : decode cX5_addPasser 122 = .ok (.iload 4, 2) := by decide +kernel
theorem dX5_addPasser_124 : decode cX5_addPasser 124 = .ok (.invokevirtual 66, 3) := by decide +kernel
theorem dX5_addPasser_127 : decode cX5_addPasser 127 = .ok (.aload_n 0, 1) := by decide +kernel
theorem dX5_addPasser_128 : decode cX5_addPasser 128 = .ok (.getfield 14, 3) := by decide +kernel
theorem dX5_addPasser_131 : decode cX5_addPasser 131 = .ok (.iload 6, 2) := by decide +kernel
theorem dX5_addPasser_133 : decode cX5_addPasser 133 = .ok (.iconst 4, 1) := by decide +kernel
theorem dX5_addPasser_134 : decode cX5_addPasser 134 = .ok (.iconst 3, 1) := by decide +kernel
theorem dX5_addPasser_135 : decode cX5_addPasser 135 = .ok (.invokevirtual 66, 3) := by decide +kernel
theorem dX5_addPasser_138 : decode cX5_addPasser 138 = .ok (.aload_n 0, 1) := by decide +kernel
theorem dX5_addPasser_139 : decode cX5_addPasser 139 = .ok (.getfield 14, 3) := by decide +kernel
theorem dX5_addPasser_142 : decode cX5_addPasser 142 = .ok (.iload 6, 2) := by decide +kernel
theorem dX5_addPasser_144 : decode cX5_addPasser 144 = .ok (.iconst 5, 1) := by decide +kernel
theorem dX5_addPasser_145 : decode cX5_addPasser 145 = .ok (.iconst 3, 1) := by decide +kernel
theorem dX5_addPasser_146 : decode cX5_addPasser 146 = .ok (.invokevirtual 66, 3) := by decide +kernel
theorem dX5_addPasser_149 : decode cX5_addPasser 149 = .ok (.iload 6, 2) := by decide +kernel
theorem dX5_addPasser_151 : decode cX5_addPasser 151 = .ok (.ireturn, 1) := by decide +kernel
set_option maxRecDepth 20000 in
theorem ggX5_addBeast_X11_isMinute : GoodIn wsX5_addBeast wsX11_isMinute := goodIn_r _ [4, 5, 6, 3, 7] (by decide +kernel) (by decide +kernel)
set_option maxRecDepth 20000 in
theorem gX5_addBeast_X11_isMinute_n51 : GoodIn wsX5_addBeast (wsX11_isMinute) := ggX5_addBeast_X11_isMinute
set_option maxRecDepth 20000 in
theorem ggX5_addBeast_X11_isHigh : GoodIn wsX5_addBeast wsX11_isHigh := goodIn_r _ [9, 5, 6, 3, 7] (by decide +kernel) (by decide +kernel)
set_option maxRecDepth 20000 in
theorem gX5_addBeast_X11_isHigh_n47 : GoodIn wsX5_addBeast (wsX11_isHigh) := ggX5_addBeast_X11_isHigh
set_option maxRecDepth 20000 in
theorem ggX5_addBeast_X7_open : GoodIn wsX5_addBeast wsX7_open := goodIn_r _ [14, 15, 16, 17, 18, 13, 19, 20, 34, 35, 36, 37] (by decide +kernel) (by decide +kernel)
set_option maxRecDepth 20000 in
theorem gX5_addBeast_X7_open : GoodIn wsX5_addBeast (wsV RX5 62 RX7 yX7_open wsX7_open) := goodIn_app (goodIn_of _ (by decide +kernel)) ggX5_addBeast_X7_open
set_option maxRecDepth 20000 in
theorem ggX5_addBeast_X7_put : GoodIn wsX5_addBeast wsX7_put := goodIn_r _ [24, 25, 26, 34, 35, 36, 37] (by decide +kernel) (by decide +kernel)
set_option maxRecDepth 20000 in
theorem gX5_addBeast_X7_put : GoodIn wsX5_addBeast (wsV RX5 66 RX7 yX7_put wsX7_put) := goodIn_app (goodIn_of _ (by decide +kernel)) ggX5_addBeast_X7_put
theorem dX5_addBeast_0 : decode cX5_addBeast 0 = .ok (.iload_n 1, 1) := by decide +kernel
theorem dX5_addBeast_1 : decode cX5_addBeast 1 = .ok (.invokestatic 51, 3) := by decide +kernel
theorem dX5_addBeast_4 : decode cX5_addBeast 4 = .ok (.ifCond .eq 10, 3) := by decide +kernel
theorem dX5_addBeast_7 : decode cX5_addBeast 7 = .ok (.iload_n 2, 1) := by decide +kernel
theorem dX5_addBeast_8 : decode cX5_addBeast 8 = .ok (.invokestatic 47, 3) := by decide +kernel
theorem dX5_addBeast_11 : decode cX5_addBeast 11 = .ok (.ifCond .ne 6, 3) := by decide +kernel
theorem dX5_addBeast_14 : decode cX5_addBeast 14 = .ok (.bipush (-2), 2) := by decide +kernel
theorem dX5_addBeast_16 : decode cX5_addBeast 16 = .ok (.ireturn, 1) := by decide +kernel
theorem dX5_addBeast_17 : decode cX5_addBeast 17 = .ok (.aload_n 0, 1) := by decide +kernel
theorem dX5_addBeast_18 : decode cX5_addBeast 18 = .ok (.getfield 20, 3) := by decide +kernel
theorem dX5_addBeast_21 : decode cX5_addBeast 21 = .ok (.invokevirtual 62, 3) := by decide +kernel
theorem dX5_addBeast_24 : decode cX5_addBeast 24 = .ok (.istore_n 3, 1) := by decide +kernel
theorem dX5_addBeast_25 : decode cX5_addBeast 25 = .ok (.iload_n 3, 1) := by decide +kernel
theorem dX5_addBeast_26 : decode cX5_addBeast 26 = .ok (.bipush (-4), 2) := by decide +kernel
theorem dX5_addBeast_28 : decode cX5_addBeast 28 = .ok (.if_icmp .eq 23, 3) := by decide +kernel
theorem dX5_addBeast_31 : decode cX5_addBeast 31 = .ok (.aload_n 0, 1) := by decide +kernel
theorem dX5_addBeast_32 : decode cX5_addBeast 32 = .ok (.getfield 20, 3) := by decide +kernel
theorem dX5_addBeast_35 : decode cX5_addBeast 35 = .ok (.iload_n 3, 1) := by decide +kernel
theorem dX5_addBeast_36 : decode cX5_addBeast 36 = .ok (.iconst 0, 1) := by decide +kernel
theorem dX5_addBeast_37 : decode cX5_addBeast 37 = .ok (.iload_n 1, 1) := by decide +kernel
theorem dX5_addBeast_38 : decode cX5_addBeast 38 = .ok (.invokevirtual 66, 3) := by decide +kernel
theorem dX5_addBeast_41 : decode cX5_addBeast 41 = .ok (.aload_n 0, 1) := by decide +kernel
theorem dX5_addBeast_42 : decode cX5_addBeast 42 = .ok (.getfield 20, 3) := by decide +kernel
theorem dX5_addBeast_45 : decode cX5_addBeast 45 = .ok (.iload_n 3, 1) := by decide +kernel
theorem dX5_addBeast_46 : decode cX5_addBeast 46 = .ok (.iconst 1, 1) := by decide +kernel
theorem dX5_addBeast_47 : decode cX5_addBeast 47 = .ok (.iload_n 2, 1) := by decide +kernel
theorem dX5_addBeast_48 : decode cX5_addBeast 48 = .ok (.invokevirtual 66, 3) := by decide +kernel
theorem dX5_addBeast_51 : decode cX5_addBeast 51 = .ok (.iload_n 3, 1) := by decide +kernel
theorem dX5_addBeast_52 : decode cX5_addBeast 52 = .ok (.ireturn, 1) := by decide +kernel
set_option maxRecDepth 20000 in
theorem ggX5_addCheck_X11_isMinute : GoodIn wsX5_addCheck wsX11_isMinute := goodIn_r _ [4, 5, 6, 3, 7] (by decide +kernel) (by decide +kernel)
set_option maxRecDepth 20000 in
theorem gX5_addCheck_X11_isMinute_n51 : GoodIn wsX5_addCheck (wsX11_isMinute) := ggX5_addCheck_X11_isMinute
set_option maxRecDepth 20000 in
theorem ggX5_addCheck_X7_lastAt : GoodIn wsX5_addCheck wsX7_lastAt := goodIn_r _ [12, 13, 14, 15, 16, 11, 17, 18, 19, 42, 43, 44, 45] (by decide +kernel) (by decide +kernel)
set_option maxRecDepth 20000 in
theorem gX5_addCheck_X7_lastAt : GoodIn wsX5_addCheck (wsV RX5 54 RX7 yX7_lastAt wsX7_lastAt) := goodIn_app (goodIn_of _ (by decide +kernel)) ggX5_addCheck_X7_lastAt
set_option maxRecDepth 20000 in
theorem ggX5_addCheck_X11_isHigh : GoodIn wsX5_addCheck wsX11_isHigh := goodIn_r _ [21, 5, 6, 3, 7] (by decide +kernel) (by decide +kernel)
set_option maxRecDepth 20000 in
theorem gX5_addCheck_X11_isHigh_n47 : GoodIn wsX5_addCheck (wsX11_isHigh) := ggX5_addCheck_X11_isHigh
set_option maxRecDepth 20000 in
theorem ggX5_addCheck_X7_open : GoodIn wsX5_addCheck wsX7_open := goodIn_r _ [25, 13, 26, 27, 28, 11, 29, 30, 42, 43, 44, 45] (by decide +kernel) (by decide +kernel)
set_option maxRecDepth 20000 in
theorem gX5_addCheck_X7_open : GoodIn wsX5_addCheck (wsV RX5 62 RX7 yX7_open wsX7_open) := goodIn_app (goodIn_of _ (by decide +kernel)) ggX5_addCheck_X7_open
set_option maxRecDepth 20000 in
theorem ggX5_addCheck_X7_put : GoodIn wsX5_addCheck wsX7_put := goodIn_r _ [34, 18, 19, 42, 43, 44, 45] (by decide +kernel) (by decide +kernel)
set_option maxRecDepth 20000 in
theorem gX5_addCheck_X7_put : GoodIn wsX5_addCheck (wsV RX5 66 RX7 yX7_put wsX7_put) := goodIn_app (goodIn_of _ (by decide +kernel)) ggX5_addCheck_X7_put
theorem dX5_addCheck_0 : decode cX5_addCheck 0 = .ok (.iload_n 1, 1) := by decide +kernel
theorem dX5_addCheck_1 : decode cX5_addCheck 1 = .ok (.invokestatic 51, 3) := by decide +kernel
theorem dX5_addCheck_4 : decode cX5_addCheck 4 = .ok (.ifCond .eq 19, 3) := by decide +kernel
theorem dX5_addCheck_7 : decode cX5_addCheck 7 = .ok (.iload_n 1, 1) := by decide +kernel
theorem dX5_addCheck_8 : decode cX5_addCheck 8 = .ok (.aload_n 0, 1) := by decide +kernel
theorem dX5_addCheck_9 : decode cX5_addCheck 9 = .ok (.getfield 23, 3) := by decide +kernel
theorem dX5_addCheck_12 : decode cX5_addCheck 12 = .ok (.iconst 0, 1) := by decide +kernel
theorem dX5_addCheck_13 : decode cX5_addCheck 13 = .ok (.invokevirtual 54, 3) := by decide +kernel
theorem dX5_addCheck_16 : decode cX5_addCheck 16 = .ok (.if_icmp .le 7, 3) := by decide +kernel
theorem dX5_addCheck_19 : decode cX5_addCheck 19 = .ok (.iconst 1, 1) := by decide +kernel
theorem dX5_addCheck_20 : decode cX5_addCheck 20 = .ok (.goto 4, 3) := by decide +kernel
theorem dX5_addCheck_23 : decode cX5_addCheck 23 = .ok (.iconst 0, 1) := by decide +kernel
theorem dX5_addCheck_24 : decode cX5_addCheck 24 = .ok (.istore 4, 2) := by decide +kernel
theorem dX5_addCheck_26 : decode cX5_addCheck 26 = .ok (.iload 4, 2) := by decide +kernel
theorem dX5_addCheck_28 : decode cX5_addCheck 28 = .ok (.ifCond .eq 22, 3) := by decide +kernel
theorem dX5_addCheck_31 : decode cX5_addCheck 31 = .ok (.iload_n 2, 1) := by decide +kernel
theorem dX5_addCheck_32 : decode cX5_addCheck 32 = .ok (.invokestatic 47, 3) := by decide +kernel
theorem dX5_addCheck_35 : decode cX5_addCheck 35 = .ok (.ifCond .eq 15, 3) := by decide +kernel
theorem dX5_addCheck_38 : decode cX5_addCheck 38 = .ok (.iload_n 3, 1) := by decide +kernel
theorem dX5_addCheck_39 : decode cX5_addCheck 39 = .ok (.invokestatic 47, 3) := by decide +kernel
theorem dX5_addCheck_42 : decode cX5_addCheck 42 = .ok (.ifCond .eq 8, 3) := by decide +kernel
theorem dX5_addCheck_45 : decode cX5_addCheck 45 = .ok (.iload_n 2, 1) := by decide +kernel
theorem dX5_addCheck_46 : decode cX5_addCheck 46 = .ok (.iload_n 3, 1) := by decide +kernel
theorem dX5_addCheck_47 : decode cX5_addCheck 47 = .ok (.if_icmp .le 6, 3) := by decide +kernel
theorem dX5_addCheck_50 : decode cX5_addCheck 50 = .ok (.bipush (-2), 2) := by decide +kernel
theorem dX5_addCheck_52 : decode cX5_addCheck 52 = .ok (.ireturn, 1) := by decide +kernel
theorem dX5_addCheck_53 : decode cX5_addCheck 53 = .ok (.aload_n 0, 1) := by decide +kernel
theorem dX5_addCheck_54 : decode cX5_addCheck 54 = .ok (.getfield 23, 3) := by decide +kernel
theorem dX5_addCheck_57 : decode cX5_addCheck 57 = .ok (.invokevirtual 62, 3) := by decide +kernel
theorem dX5_addCheck_60 : decode cX5_addCheck 60 = .ok (.istore 5, 2) := by decide +kernel
theorem dX5_addCheck_62 : decode cX5_addCheck 62 = .ok (.iload 5, 2) := by decide +kernel
theorem dX5_addCheck_64 : decode cX5_addCheck 64 = .ok (.bipush (-4), 2) := by decide +kernel
theorem dX5_addCheck_66 : decode cX5_addCheck 66 = .ok (.if_icmp .eq 36, 3) := by decide +kernel
theorem dX5_addCheck_69 : decode cX5_addCheck 69 = .ok (.aload_n 0, 1) := by decide +kernel
theorem dX5_addCheck_70 : decode cX5_addCheck 70 = .ok (.getfield 23, 3) := by decide +kernel
theorem dX5_addCheck_73 : decode cX5_addCheck 73 = .ok (.iload 5, 2) := by decide +kernel
theorem dX5_addCheck_75 : decode cX5_addCheck 75 = .ok (.iconst 0, 1) := by decide +kernel
theorem dX5_addCheck_76 : decode cX5_addCheck 76 = .ok (.iload_n 1, 1) := by decide +kernel
theorem dX5_addCheck_77 : decode cX5_addCheck 77 = .ok (.invokevirtual 66, 3) := by decide +kernel
theorem dX5_addCheck_80 : decode cX5_addCheck 80 = .ok (.aload_n 0, 1) := by decide +kernel
theorem dX5_addCheck_81 : decode cX5_addCheck 81 = .ok (.getfield 23, 3) := by decide +kernel
theorem dX5_addCheck_84 : decode cX5_addCheck 84 = .ok (.iload 5, 2) := by decide +kernel
theorem dX5_addCheck_86 : decode cX5_addCheck 86 = .ok (.iconst 1, 1) := by decide +kernel
theorem dX5_addCheck_87 : decode cX5_addCheck 87 = .ok (.iload_n 2, 1) := by decide +kernel
theorem dX5_addCheck_88 : decode cX5_addCheck 88 = .ok (.invokevirtual 66, 3) := by decide +kernel
theorem dX5_addCheck_91 : decode cX5_addCheck 91 = .ok (.aload_n 0, 1) := by decide +kernel
theorem dX5_addCheck_92 : decode cX5_addCheck 92 = .ok (.getfield 23, 3) := by decide +kernel
theorem dX5_addCheck_95 : decode cX5_addCheck 95 = .ok (.iload 5, 2) := by decide +kernel
theorem dX5_addCheck_97 : decode cX5_addCheck 97 = .ok (.iconst 2, 1) := by decide +kernel
theorem dX5_addCheck_98 : decode cX5_addCheck 98 = .ok (.iload_n 3, 1) := by decide +kernel
theorem dX5_addCheck_99 : decode cX5_addCheck 99 = .ok (.invokevirtual 66, 3) := by decide +kernel
theorem dX5_addCheck_102 : decode cX5_addCheck 102 = .ok (.iload 5, 2) := by decide +kernel
theorem dX5_addCheck_104 : decode cX5_addCheck 104 = .ok (.ireturn, 1) := by decide +kernel
set_option maxRecDepth 20000 in
theorem ggX5_addLook_X11_isMinute : GoodIn wsX5_addLook wsX11_isMinute := goodIn_r _ [4, 5, 6, 3, 7] (by decide +kernel) (by decide +kernel)
set_option maxRecDepth 20000 in
theorem gX5_addLook_X11_isMinute_n51 : GoodIn wsX5_addLook (wsX11_isMinute) := ggX5_addLook_X11_isMinute
set_option maxRecDepth 20000 in
theorem ggX5_addLook_X7_lastAt : GoodIn wsX5_addLook wsX7_lastAt := goodIn_r _ [12, 13, 14, 15, 16, 11, 17, 18, 19, 42, 43, 44, 45] (by decide +kernel) (by decide +kernel)
set_option maxRecDepth 20000 in
theorem gX5_addLook_X7_lastAt : GoodIn wsX5_addLook (wsV RX5 54 RX7 yX7_lastAt wsX7_lastAt) := goodIn_app (goodIn_of _ (by decide +kernel)) ggX5_addLook_X7_lastAt
set_option maxRecDepth 20000 in
theorem ggX5_addLook_X11_isHigh : GoodIn wsX5_addLook wsX11_isHigh := goodIn_r _ [21, 5, 6, 3, 7] (by decide +kernel) (by decide +kernel)
set_option maxRecDepth 20000 in
theorem gX5_addLook_X11_isHigh_n47 : GoodIn wsX5_addLook (wsX11_isHigh) := ggX5_addLook_X11_isHigh
set_option maxRecDepth 20000 in
theorem ggX5_addLook_X7_open : GoodIn wsX5_addLook wsX7_open := goodIn_r _ [25, 13, 26, 27, 28, 11, 29, 30, 42, 43, 44, 45] (by decide +kernel) (by decide +kernel)
set_option maxRecDepth 20000 in
theorem gX5_addLook_X7_open : GoodIn wsX5_addLook (wsV RX5 62 RX7 yX7_open wsX7_open) := goodIn_app (goodIn_of _ (by decide +kernel)) ggX5_addLook_X7_open
set_option maxRecDepth 20000 in
theorem ggX5_addLook_X7_put : GoodIn wsX5_addLook wsX7_put := goodIn_r _ [34, 18, 19, 42, 43, 44, 45] (by decide +kernel) (by decide +kernel)
set_option maxRecDepth 20000 in
theorem gX5_addLook_X7_put : GoodIn wsX5_addLook (wsV RX5 66 RX7 yX7_put wsX7_put) := goodIn_app (goodIn_of _ (by decide +kernel)) ggX5_addLook_X7_put
theorem dX5_addLook_0 : decode cX5_addLook 0 = .ok (.iload_n 1, 1) := by decide +kernel
theorem dX5_addLook_1 : decode cX5_addLook 1 = .ok (.invokestatic 51, 3) := by decide +kernel
theorem dX5_addLook_4 : decode cX5_addLook 4 = .ok (.ifCond .eq 19, 3) := by decide +kernel
theorem dX5_addLook_7 : decode cX5_addLook 7 = .ok (.iload_n 1, 1) := by decide +kernel
theorem dX5_addLook_8 : decode cX5_addLook 8 = .ok (.aload_n 0, 1) := by decide +kernel
theorem dX5_addLook_9 : decode cX5_addLook 9 = .ok (.getfield 26, 3) := by decide +kernel
theorem dX5_addLook_12 : decode cX5_addLook 12 = .ok (.iconst 0, 1) := by decide +kernel
theorem dX5_addLook_13 : decode cX5_addLook 13 = .ok (.invokevirtual 54, 3) := by decide +kernel
theorem dX5_addLook_16 : decode cX5_addLook 16 = .ok (.if_icmp .lt 7, 3) := by decide +kernel
theorem dX5_addLook_19 : decode cX5_addLook 19 = .ok (.iconst 1, 1) := by decide +kernel
theorem dX5_addLook_20 : decode cX5_addLook 20 = .ok (.goto 4, 3) := by decide +kernel
theorem dX5_addLook_23 : decode cX5_addLook 23 = .ok (.iconst 0, 1) := by decide +kernel
theorem dX5_addLook_24 : decode cX5_addLook 24 = .ok (.istore_n 3, 1) := by decide +kernel
theorem dX5_addLook_25 : decode cX5_addLook 25 = .ok (.iload_n 3, 1) := by decide +kernel
theorem dX5_addLook_26 : decode cX5_addLook 26 = .ok (.ifCond .eq 10, 3) := by decide +kernel
theorem dX5_addLook_29 : decode cX5_addLook 29 = .ok (.iload_n 2, 1) := by decide +kernel
theorem dX5_addLook_30 : decode cX5_addLook 30 = .ok (.invokestatic 47, 3) := by decide +kernel
theorem dX5_addLook_33 : decode cX5_addLook 33 = .ok (.ifCond .ne 6, 3) := by decide +kernel
theorem dX5_addLook_36 : decode cX5_addLook 36 = .ok (.bipush (-2), 2) := by decide +kernel
theorem dX5_addLook_38 : decode cX5_addLook 38 = .ok (.ireturn, 1) := by decide +kernel
theorem dX5_addLook_39 : decode cX5_addLook 39 = .ok (.aload_n 0, 1) := by decide +kernel
theorem dX5_addLook_40 : decode cX5_addLook 40 = .ok (.getfield 26, 3) := by decide +kernel
theorem dX5_addLook_43 : decode cX5_addLook 43 = .ok (.invokevirtual 62, 3) := by decide +kernel
theorem dX5_addLook_46 : decode cX5_addLook 46 = .ok (.istore 4, 2) := by decide +kernel
theorem dX5_addLook_48 : decode cX5_addLook 48 = .ok (.iload 4, 2) := by decide +kernel
theorem dX5_addLook_50 : decode cX5_addLook 50 = .ok (.bipush (-4), 2) := by decide +kernel
theorem dX5_addLook_52 : decode cX5_addLook 52 = .ok (.if_icmp .eq 25, 3) := by decide +kernel
theorem dX5_addLook_55 : decode cX5_addLook 55 = .ok (.aload_n 0, 1) := by decide +kernel
theorem dX5_addLook_56 : decode cX5_addLook 56 = .ok (.getfield 26, 3) := by decide +kernel
theorem dX5_addLook_59 : decode cX5_addLook 59 = .ok (.iload 4, 2) := by decide +kernel
theorem dX5_addLook_61 : decode cX5_addLook 61 = .ok (.iconst 0, 1) := by decide +kernel
theorem dX5_addLook_62 : decode cX5_addLook 62 = .ok (.iload_n 1, 1) := by decide +kernel
theorem dX5_addLook_63 : decode cX5_addLook 63 = .ok (.invokevirtual 66, 3) := by decide +kernel
theorem dX5_addLook_66 : decode cX5_addLook 66 = .ok (.aload_n 0, 1) := by decide +kernel
theorem dX5_addLook_67 : decode cX5_addLook 67 = .ok (.getfield 26, 3) := by decide +kernel
theorem dX5_addLook_70 : decode cX5_addLook 70 = .ok (.iload 4, 2) := by decide +kernel
theorem dX5_addLook_72 : decode cX5_addLook 72 = .ok (.iconst 1, 1) := by decide +kernel
theorem dX5_addLook_73 : decode cX5_addLook 73 = .ok (.iload_n 2, 1) := by decide +kernel
theorem dX5_addLook_74 : decode cX5_addLook 74 = .ok (.invokevirtual 66, 3) := by decide +kernel
theorem dX5_addLook_77 : decode cX5_addLook 77 = .ok (.iload 4, 2) := by decide +kernel
theorem dX5_addLook_79 : decode cX5_addLook 79 = .ok (.ireturn, 1) := by decide +kernel
set_option maxRecDepth 20000 in
theorem ggX5_firstStand_X11_stand : GoodIn wsX5_firstStand wsX11_stand := goodIn_r _ [4] (by decide +kernel) (by decide +kernel)
set_option maxRecDepth 20000 in
theorem gX5_firstStand_X11_stand_n70 : GoodIn wsX5_firstStand (wsX11_stand) := ggX5_firstStand_X11_stand
theorem dX5_firstStand_0 : decode cX5_firstStand 0 = .ok (.aload_n 0, 1) := by decide +kernel
theorem dX5_firstStand_1 : decode cX5_firstStand 1 = .ok (.getfield 29, 3) := by decide +kernel
theorem dX5_firstStand_4 : decode cX5_firstStand 4 = .ok (.iconst 0, 1) := by decide +kernel
theorem dX5_firstStand_5 : decode cX5_firstStand 5 = .ok (.invokestatic 70, 3) := by decide +kernel
theorem dX5_firstStand_8 : decode cX5_firstStand 8 = .ok (.ireturn, 1) := by decide +kernel
set_option maxRecDepth 20000 in
theorem ggX5_passedUntil_X7_size : GoodIn wsX5_passedUntil wsX7_size := goodIn_r _ [6, 7, 21, 22, 23, 24] (by decide +kernel) (by decide +kernel)
set_option maxRecDepth 20000 in
theorem gX5_passedUntil_X7_size : GoodIn wsX5_passedUntil (wsV RX5 74 RX7 yX7_size wsX7_size) := goodIn_app (goodIn_of _ (by decide +kernel)) ggX5_passedUntil_X7_size
set_option maxRecDepth 20000 in
theorem ggX5_passedUntil_X7_at : GoodIn wsX5_passedUntil wsX7_at := goodIn_r _ [11, 12, 13, 21, 22, 23, 24] (by decide +kernel) (by decide +kernel)
set_option maxRecDepth 20000 in
theorem gX5_passedUntil_X7_at : GoodIn wsX5_passedUntil (wsV RX5 77 RX7 yX7_at wsX7_at) := goodIn_app (goodIn_of _ (by decide +kernel)) ggX5_passedUntil_X7_at
theorem dX5_passedUntil_0 : decode cX5_passedUntil 0 = .ok (.iconst 0, 1) := by decide +kernel
theorem dX5_passedUntil_1 : decode cX5_passedUntil 1 = .ok (.istore_n 2, 1) := by decide +kernel
theorem dX5_passedUntil_2 : decode cX5_passedUntil 2 = .ok (.iconst 0, 1) := by decide +kernel
theorem dX5_passedUntil_3 : decode cX5_passedUntil 3 = .ok (.istore_n 3, 1) := by decide +kernel
theorem dX5_passedUntil_4 : decode cX5_passedUntil 4 = .ok (.iload_n 3, 1) := by decide +kernel
theorem dX5_passedUntil_5 : decode cX5_passedUntil 5 = .ok (.aload_n 0, 1) := by decide +kernel
theorem dX5_passedUntil_6 : decode cX5_passedUntil 6 = .ok (.getfield 14, 3) := by decide +kernel
theorem dX5_passedUntil_9 : decode cX5_passedUntil 9 = .ok (.invokevirtual 74, 3) := by decide +kernel
theorem dX5_passedUntil_12 : decode cX5_passedUntil 12 = .ok (.if_icmp .ge 25, 3) := by decide +kernel
theorem dX5_passedUntil_15 : decode cX5_passedUntil 15 = .ok (.aload_n 0, 1) := by decide +kernel
theorem dX5_passedUntil_16 : decode cX5_passedUntil 16 = .ok (.getfield 14, 3) := by decide +kernel
theorem dX5_passedUntil_19 : decode cX5_passedUntil 19 = .ok (.iload_n 3, 1) := by decide +kernel
theorem dX5_passedUntil_20 : decode cX5_passedUntil 20 = .ok (.iconst 0, 1) := by decide +kernel
theorem dX5_passedUntil_21 : decode cX5_passedUntil 21 = .ok (.invokevirtual 77, 3) := by decide +kernel
theorem dX5_passedUntil_24 : decode cX5_passedUntil 24 = .ok (.iload_n 1, 1) := by decide +kernel
theorem dX5_passedUntil_25 : decode cX5_passedUntil 25 = .ok (.if_icmp .gt 6, 3) := by decide +kernel
theorem dX5_passedUntil_28 : decode cX5_passedUntil 28 = .ok (.iinc 2 1, 3) := by decide +kernel
theorem dX5_passedUntil_31 : decode cX5_passedUntil 31 = .ok (.iinc 3 1, 3) := by decide +kernel
theorem dX5_passedUntil_34 : decode cX5_passedUntil 34 = .ok (.goto (-30), 3) := by decide +kernel
theorem dX5_passedUntil_37 : decode cX5_passedUntil 37 = .ok (.iload_n 2, 1) := by decide +kernel
theorem dX5_passedUntil_38 : decode cX5_passedUntil 38 = .ok (.ireturn, 1) := by decide +kernel
set_option maxRecDepth 20000 in
theorem ggX5_highIn_X5_passedUntil : GoodIn wsX5_highIn wsX5_passedUntil := goodIn_r _ [5, 6, 7, 8, 9, 10, 11, 12, 13, 14, 15, 16, 17, 18, 106, 107, 108, 109, 110, 111, 112, 113, 114, 115, 116] (by decide +kernel) (by decide +kernel)
set_option maxRecDepth 20000 in
theorem gX5_highIn_X5_passedUntil : GoodIn wsX5_highIn (wsV RX5 80 RX5 yX5_passedUntil wsX5_passedUntil) := goodIn_app (goodIn_of _ (by decide +kernel)) ggX5_highIn_X5_passedUntil
set_option maxRecDepth 20000 in
theorem ggX5_highIn_X5_firstStand : GoodIn wsX5_highIn wsX5_firstStand := goodIn_r _ [22, 23, 24, 25, 26, 106, 107, 108, 109, 110, 111, 112] (by decide +kernel) (by decide +kernel)
set_option maxRecDepth 20000 in
theorem gX5_highIn_X5_firstStand : GoodIn wsX5_highIn (wsV RX5 83 RX5 yX5_firstStand wsX5_firstStand) := goodIn_app (goodIn_of _ (by decide +kernel)) ggX5_highIn_X5_firstStand
set_option maxRecDepth 20000 in
theorem ggX5_highIn_X5_walk : GoodIn wsX5_highIn wsX5_walk := goodIn_r _ [30, 31, 25, 32, 33, 34, 35, 36, 37, 4, 38, 6, 39, 13, 14, 15, 10, 16, 17, 18, 40, 41, 42, 43, 44, 45, 46, 47, 48, 49, 50, 51, 52, 53, 54, 55, 56, 57, 58, 59, 60, 61, 62, 63, 64, 65, 66, 67, 68, 69, 70, 71, 72, 73, 74, 75, 76, 77, 78, 79, 80, 81, 82, 83, 84, 85, 86, 87, 88, 89, 90, 91, 92, 93, 94, 95, 96, 97, 98, 99, 100, 101, 102, 103, 104, 105, 24, 26, 106, 107, 108, 109, 110, 111, 112, 113, 114, 115, 116] (by decide +kernel) (by decide +kernel)
set_option maxRecDepth 20000 in
theorem gX5_highIn_X5_walk : GoodIn wsX5_highIn (wsV RX5 86 RX5 yX5_walk wsX5_walk) := goodIn_app (goodIn_of _ (by decide +kernel)) ggX5_highIn_X5_walk
set_option maxRecDepth 20000 in
theorem ggX5_highIn_X11_highOf : GoodIn wsX5_highIn wsX11_highOf := goodIn_r _ [32] (by decide +kernel) (by decide +kernel)
set_option maxRecDepth 20000 in
theorem gX5_highIn_X11_highOf_n90 : GoodIn wsX5_highIn (wsX11_highOf) := ggX5_highIn_X11_highOf
theorem dX5_highIn_0 : decode cX5_highIn 0 = .ok (.aload_n 0, 1) := by decide +kernel
theorem dX5_highIn_1 : decode cX5_highIn 1 = .ok (.iconst 0, 1) := by decide +kernel
theorem dX5_highIn_2 : decode cX5_highIn 2 = .ok (.aload_n 0, 1) := by decide +kernel
theorem dX5_highIn_3 : decode cX5_highIn 3 = .ok (.iload_n 1, 1) := by decide +kernel
theorem dX5_highIn_4 : decode cX5_highIn 4 = .ok (.invokevirtual 80, 3) := by decide +kernel
theorem dX5_highIn_7 : decode cX5_highIn 7 = .ok (.aload_n 0, 1) := by decide +kernel
theorem dX5_highIn_8 : decode cX5_highIn 8 = .ok (.invokevirtual 83, 3) := by decide +kernel
theorem dX5_highIn_11 : decode cX5_highIn 11 = .ok (.invokevirtual 86, 3) := by decide +kernel
theorem dX5_highIn_14 : decode cX5_highIn 14 = .ok (.invokestatic 90, 3) := by decide +kernel
theorem dX5_highIn_17 : decode cX5_highIn 17 = .ok (.ireturn, 1) := by decide +kernel
set_option maxRecDepth 20000 in
theorem ggX5_walk_X11_highOf : GoodIn wsX5_walk wsX11_highOf := goodIn_r _ [3] (by decide +kernel) (by decide +kernel)
set_option maxRecDepth 20000 in
theorem gX5_walk_X11_highOf_n90 : GoodIn wsX5_walk (wsX11_highOf) := ggX5_walk_X11_highOf
set_option maxRecDepth 20000 in
theorem ggX5_walk_X11_didOf : GoodIn wsX5_walk wsX11_didOf := goodIn_r _ [5] (by decide +kernel) (by decide +kernel)
set_option maxRecDepth 20000 in
theorem gX5_walk_X11_didOf_n93 : GoodIn wsX5_walk (wsX11_didOf) := ggX5_walk_X11_didOf
set_option maxRecDepth 20000 in
theorem ggX5_walk_X5_deed : GoodIn wsX5_walk wsX5_deed := goodIn_r _ [10, 11, 12, 13, 14, 15, 16, 17, 18, 19, 20, 21, 22, 23, 24, 25, 26, 27, 28, 29, 30, 31, 32, 33, 34, 35, 36, 37, 38, 39, 40, 41, 42, 43, 44, 45, 46, 47, 48, 49, 50, 51, 52, 53, 54, 55, 56, 57, 58, 59, 60, 61, 62, 63, 64, 65, 66, 67, 68, 69, 70, 71, 72, 73, 74, 75, 76, 77, 78, 79, 80, 81, 82, 83, 84, 85, 88, 89, 90, 91, 92, 93, 94, 95, 96, 97, 98] (by decide +kernel) (by decide +kernel)
set_option maxRecDepth 20000 in
theorem gX5_walk_X5_deed : GoodIn wsX5_walk (wsV RX5 96 RX5 yX5_deed wsX5_deed) := goodIn_app (goodIn_of _ (by decide +kernel)) ggX5_walk_X5_deed
set_option maxRecDepth 20000 in
theorem ggX5_walk_X11_stand : GoodIn wsX5_walk wsX11_stand := goodIn_r _ [87] (by decide +kernel) (by decide +kernel)
set_option maxRecDepth 20000 in
theorem gX5_walk_X11_stand_n70 : GoodIn wsX5_walk (wsX11_stand) := ggX5_walk_X11_stand
theorem dX5_walk_0 : decode cX5_walk 0 = .ok (.iload_n 3, 1) := by decide +kernel
theorem dX5_walk_1 : decode cX5_walk 1 = .ok (.invokestatic 90, 3) := by decide +kernel
theorem dX5_walk_4 : decode cX5_walk 4 = .ok (.istore 4, 2) := by decide +kernel
theorem dX5_walk_6 : decode cX5_walk 6 = .ok (.iload_n 3, 1) := by decide +kernel
theorem dX5_walk_7 : decode cX5_walk 7 = .ok (.invokestatic 93, 3) := by decide +kernel
theorem dX5_walk_10 : decode cX5_walk 10 = .ok (.istore 5, 2) := by decide +kernel
theorem dX5_walk_12 : decode cX5_walk 12 = .ok (.iload_n 1, 1) := by decide +kernel
theorem dX5_walk_13 : decode cX5_walk 13 = .ok (.istore 6, 2) := by decide +kernel
theorem dX5_walk_15 : decode cX5_walk 15 = .ok (.iload 6, 2) := by decide +kernel
theorem dX5_walk_17 : decode cX5_walk 17 = .ok (.iload_n 2, 1) := by decide +kernel
theorem dX5_walk_18 : decode cX5_walk 18 = .ok (.if_icmp .ge 28, 3) := by decide +kernel
theorem dX5_walk_21 : decode cX5_walk 21 = .ok (.aload_n 0, 1) := by decide +kernel
theorem dX5_walk_22 : decode cX5_walk 22 = .ok (.iload 6, 2) := by decide +kernel
theorem dX5_walk_24 : decode cX5_walk 24 = .ok (.iload 4, 2) := by decide +kernel
theorem dX5_walk_26 : decode cX5_walk 26 = .ok (.iload 5, 2) := by decide +kernel
theorem dX5_walk_28 : decode cX5_walk 28 = .ok (.invokevirtual 96, 3) := by decide +kernel
theorem dX5_walk_31 : decode cX5_walk 31 = .ok (.istore 5, 2) := by decide +kernel
theorem dX5_walk_33 : decode cX5_walk 33 = .ok (.iload 4, 2) := by decide +kernel
theorem dX5_walk_35 : decode cX5_walk 35 = .ok (.iload 5, 2) := by decide +kernel
theorem dX5_walk_37 : decode cX5_walk 37 = .ok (.iadd, 1) := by decide +kernel
theorem dX5_walk_38 : decode cX5_walk 38 = .ok (.istore 4, 2) := by decide +kernel
theorem dX5_walk_40 : decode cX5_walk 40 = .ok (.iinc 6 1, 3) := by decide +kernel
theorem dX5_walk_43 : decode cX5_walk 43 = .ok (.goto (-28), 3) := by decide +kernel
theorem dX5_walk_46 : decode cX5_walk 46 = .ok (.iload 4, 2) := by decide +kernel
theorem dX5_walk_48 : decode cX5_walk 48 = .ok (.iload 5, 2) := by decide +kernel
theorem dX5_walk_50 : decode cX5_walk 50 = .ok (.invokestatic 70, 3) := by decide +kernel
theorem dX5_walk_53 : decode cX5_walk 53 = .ok (.ireturn, 1) := by decide +kernel
set_option maxRecDepth 20000 in
theorem ggX5_deed_X7_at : GoodIn wsX5_deed wsX7_at := goodIn_r _ [7, 8, 9, 83, 84, 85, 86] (by decide +kernel) (by decide +kernel)
set_option maxRecDepth 20000 in
theorem gX5_deed_X7_at : GoodIn wsX5_deed (wsV RX5 77 RX7 yX7_at wsX7_at) := goodIn_app (goodIn_of _ (by decide +kernel)) ggX5_deed_X7_at
set_option maxRecDepth 20000 in
theorem ggX5_deed_X0_act : GoodIn wsX5_deed wsX0_act := goodIn_r _ [16, 17, 18, 19, 20, 21, 22, 23, 24, 25, 26, 27, 28, 29, 30, 31, 32, 33, 34, 35] (by decide +kernel) (by decide +kernel)
set_option maxRecDepth 20000 in
theorem gX5_deed_X0_act_u99X0 : GoodIn wsX5_deed (va_wsO RX5 99 RX0 "PassStones$Taker" ⟨"PassStones$Taker", "act", "(IIIII)I"⟩ yX0_act wsX0_act) := goodIn_app (goodIn_of _ (by decide +kernel)) ggX5_deed_X0_act
set_option maxRecDepth 20000 in
theorem ggX5_deed_X1_act : GoodIn wsX5_deed wsX1_act := goodIn_r _ [40, 41, 11, 42, 43, 27, 36, 44, 45, 46, 26, 28, 47, 48, 49, 50, 51, 52] (by decide +kernel) (by decide +kernel)
set_option maxRecDepth 20000 in
theorem gX5_deed_X1_act_u99X1 : GoodIn wsX5_deed (va_wsO RX5 99 RX1 "PassStones$Taker" ⟨"PassStones$Taker", "act", "(IIIII)I"⟩ yX1_act wsX1_act) := goodIn_app (goodIn_of _ (by decide +kernel)) ggX5_deed_X1_act
set_option maxRecDepth 20000 in
theorem ggX5_deed_X2_act : GoodIn wsX5_deed wsX2_act := goodIn_r _ [56, 57, 11, 58, 43, 27, 36, 44, 45, 46, 26, 28, 47, 48, 49, 50, 51, 52, 59, 60, 61, 33, 34] (by decide +kernel) (by decide +kernel)
set_option maxRecDepth 20000 in
theorem gX5_deed_X2_act_u99X2 : GoodIn wsX5_deed (va_wsO RX5 99 RX2 "PassStones$Taker" ⟨"PassStones$Taker", "act", "(IIIII)I"⟩ yX2_act wsX2_act) := goodIn_app (goodIn_of _ (by decide +kernel)) ggX5_deed_X2_act
set_option maxRecDepth 20000 in
theorem ggX5_deed_X4_act : GoodIn wsX5_deed wsX4_act := goodIn_r _ [65, 66, 67, 68, 33, 27, 34, 69, 70, 71, 11, 72, 43, 36, 44, 45, 46, 26, 28, 47, 48, 49, 50, 51, 52] (by decide +kernel) (by decide +kernel)
set_option maxRecDepth 20000 in
theorem gX5_deed_X4_act_u99X4 : GoodIn wsX5_deed (va_wsO RX5 99 RX4 "PassStones$Taker" ⟨"PassStones$Taker", "act", "(IIIII)I"⟩ yX4_act wsX4_act) := goodIn_app (goodIn_of _ (by decide +kernel)) ggX5_deed_X4_act
set_option maxRecDepth 20000 in
theorem ggX5_deed_X9_act : GoodIn wsX5_deed wsX9_act := goodIn_r _ [36, 44, 45, 46, 26, 27, 28, 47, 48, 49, 50, 51, 52] (by decide +kernel) (by decide +kernel)
set_option maxRecDepth 20000 in
theorem gX5_deed_X9_act : GoodIn wsX5_deed (wsV RX5 99 RX9 yX9_act wsX9_act) := goodIn_app (goodIn_of _ (by decide +kernel)) ggX5_deed_X9_act
set_option maxRecDepth 20000 in
theorem ggX5_deed_X10_act : GoodIn wsX5_deed wsX10_act := goodIn_r _ [22, 23, 24, 25, 26, 27, 28, 29, 30, 31, 32, 33, 34, 35] (by decide +kernel) (by decide +kernel)
set_option maxRecDepth 20000 in
theorem gX5_deed_X10_act_u99X10 : GoodIn wsX5_deed (va_wsO RX5 99 RX10 "PassStones$Taker" ⟨"PassStones$Taker", "act", "(IIIII)I"⟩ yX10_act wsX10_act) := goodIn_app (goodIn_of _ (by decide +kernel)) ggX5_deed_X10_act
theorem dX5_deed_0 : decode cX5_deed 0 = .ok (.aload_n 0, 1) := by decide +kernel
theorem dX5_deed_1 : decode cX5_deed 1 = .ok (.getfield 14, 3) := by decide +kernel
theorem dX5_deed_4 : decode cX5_deed 4 = .ok (.iload_n 1, 1) := by decide +kernel
theorem dX5_deed_5 : decode cX5_deed 5 = .ok (.iconst 1, 1) := by decide +kernel
theorem dX5_deed_6 : decode cX5_deed 6 = .ok (.invokevirtual 77, 3) := by decide +kernel
theorem dX5_deed_9 : decode cX5_deed 9 = .ok (.istore 4, 2) := by decide +kernel
theorem dX5_deed_11 : decode cX5_deed 11 = .ok (.iload 4, 2) := by decide +kernel
theorem dX5_deed_13 : decode cX5_deed 13 = .ok (.ifCond .lt 23, 3) := by decide +kernel
theorem dX5_deed_16 : decode cX5_deed 16 = .ok (.iload 4, 2) := by decide +kernel
theorem dX5_deed_18 : decode cX5_deed 18 = .ok (.aload_n 0, 1) := by decide +kernel
theorem dX5_deed_19 : decode cX5_deed 19 = .ok (.getfield 36, 3) := by decide +kernel
theorem dX5_deed_22 : decode cX5_deed 22 = .ok (.arraylength, 1) := by decide +kernel
theorem dX5_deed_23 : decode cX5_deed 23 = .ok (.if_icmp .ge 13, 3) := by decide +kernel
theorem dX5_deed_26 : decode cX5_deed 26 = .ok (.aload_n 0, 1) := by decide +kernel
theorem dX5_deed_27 : decode cX5_deed 27 = .ok (.getfield 36, 3) := by decide +kernel
theorem dX5_deed_30 : decode cX5_deed 30 = .ok (.iload 4, 2) := by decide +kernel
theorem dX5_deed_32 : decode cX5_deed 32 = .ok (.aaload, 1) := by decide +kernel
theorem dX5_deed_33 : decode cX5_deed 33 = .ok (.ifnonnull 5, 3) := by decide +kernel
theorem dX5_deed_36 : decode cX5_deed 36 = .ok (.iconst 0, 1) := by decide +kernel
theorem dX5_deed_37 : decode cX5_deed 37 = .ok (.ireturn, 1) := by decide +kernel
theorem dX5_deed_38 : decode cX5_deed 38 = .ok (.aload_n 0, 1) := by decide +kernel
theorem dX5_deed_39 : decode cX5_deed 39 = .ok (.getfield 14, 3) := by decide +kernel
theorem dX5_deed_42 : decode cX5_deed 42 = .ok (.iload_n 1, 1) := by decide +kernel
theorem dX5_deed_43 : decode cX5_deed 43 = .ok (.iconst 0, 1) := by decide +kernel
theorem dX5_deed_44 : decode cX5_deed 44 = .ok (.invokevirtual 77, 3) := by decide +kernel
theorem dX5_deed_47 : decode cX5_deed 47 = .ok (.istore 5, 2) := by decide +kernel
theorem dX5_deed_49 : decode cX5_deed 49 = .ok (.aload_n 0, 1) := by decide +kernel
theorem dX5_deed_50 : decode cX5_deed 50 = .ok (.getfield 36, 3) := by decide +kernel
theorem dX5_deed_53 : decode cX5_deed 53 = .ok (.iload 4, 2) := by decide +kernel
theorem dX5_deed_55 : decode cX5_deed 55 = .ok (.aaload, 1) := by decide +kernel
theorem dX5_deed_56 : decode cX5_deed 56 = .ok (.iload 5, 2) := by decide +kernel
theorem dX5_deed_58 : decode cX5_deed 58 = .ok (.aload_n 0, 1) := by decide +kernel
theorem dX5_deed_59 : decode cX5_deed 59 = .ok (.getfield 14, 3) := by decide +kernel
theorem dX5_deed_62 : decode cX5_deed 62 = .ok (.iload_n 1, 1) := by decide +kernel
theorem dX5_deed_63 : decode cX5_deed 63 = .ok (.iconst 2, 1) := by decide +kernel
theorem dX5_deed_64 : decode cX5_deed 64 = .ok (.invokevirtual 77, 3) := by decide +kernel
theorem dX5_deed_67 : decode cX5_deed 67 = .ok (.aload_n 0, 1) := by decide +kernel
theorem dX5_deed_68 : decode cX5_deed 68 = .ok (.getfield 14, 3) := by decide +kernel
theorem dX5_deed_71 : decode cX5_deed 71 = .ok (.iload_n 1, 1) := by decide +kernel
theorem dX5_deed_72 : decode cX5_deed 72 = .ok (.iconst 3, 1) := by decide +kernel
theorem dX5_deed_73 : decode cX5_deed 73 = .ok (.invokevirtual 77, 3) := by decide +kernel
theorem dX5_deed_76 : decode cX5_deed 76 = .ok (.iload_n 2, 1) := by decide +kernel
theorem dX5_deed_77 : decode cX5_deed 77 = .ok (.iload_n 3, 1) := by decide +kernel
theorem dX5_deed_78 : decode cX5_deed 78 = .ok (.invokevirtual 99, 3) := by decide +kernel
theorem dX5_deed_81 : decode cX5_deed 81 = .ok (.ireturn, 1) := by decide +kernel
set_option maxRecDepth 20000 in
theorem ggX6_init_X7_init : GoodIn wsX6_init wsX7_init := goodIn_r _ [15, 16, 2, 3, 17, 18, 19, 20, 21, 22, 23, 24, 25, 31, 32, 33, 34] (by decide +kernel) (by decide +kernel)
set_option maxRecDepth 20000 in
theorem gX6_init_X7_init : GoodIn wsX6_init (wsX7_init) := ggX6_init_X7_init
theorem dX6_init_0 : decode cX6_init 0 = .ok (.aload_n 0, 1) := by decide +kernel
theorem dX6_init_1 : decode cX6_init 1 = .ok (.invokespecial 3, 3) := by decide +kernel
theorem dX6_init_4 : decode cX6_init 4 = .ok (.aload_n 0, 1) := by decide +kernel
theorem dX6_init_5 : decode cX6_init 5 = .ok (.sipush 200, 3) := by decide +kernel
theorem dX6_init_8 : decode cX6_init 8 = .ok (.newarray .byte, 2) := by decide +kernel
theorem dX6_init_10 : decode cX6_init 10 = .ok (.putfield 9, 3) := by decide +kernel
theorem dX6_init_13 : decode cX6_init 13 = .ok (.aload_n 0, 1) := by decide +kernel
theorem dX6_init_14 : decode cX6_init 14 = .ok (.new 15, 3) := by decide +kernel
theorem dX6_init_17 : decode cX6_init 17 = .ok (.dup, 1) := by decide +kernel
theorem dX6_init_18 : decode cX6_init 18 = .ok (.bipush 33, 2) := by decide +kernel
theorem dX6_init_20 : decode cX6_init 20 = .ok (.iconst 5, 1) := by decide +kernel
theorem dX6_init_21 : decode cX6_init 21 = .ok (.invokespecial 17, 3) := by decide +kernel
theorem dX6_init_24 : decode cX6_init 24 = .ok (.putfield 20, 3) := by decide +kernel
theorem dX6_init_27 : decode cX6_init 27 = .ok (.aload_n 0, 1) := by decide +kernel
theorem dX6_init_28 : decode cX6_init 28 = .ok (.iconst 0, 1) := by decide +kernel
theorem dX6_init_29 : decode cX6_init 29 = .ok (.putfield 24, 3) := by decide +kernel
theorem dX6_init_32 : decode cX6_init 32 = .ok (.aload_n 0, 1) := by decide +kernel
theorem dX6_init_33 : decode cX6_init 33 = .ok (.iconst 0, 1) := by decide +kernel
theorem dX6_init_34 : decode cX6_init 34 = .ok (.putfield 28, 3) := by decide +kernel
theorem dX6_init_37 : decode cX6_init 37 = .ok (.aload_n 0, 1) := by decide +kernel
theorem dX6_init_38 : decode cX6_init 38 = .ok (.iconst 0, 1) := by decide +kernel
theorem dX6_init_39 : decode cX6_init 39 = .ok (.putfield 31, 3) := by decide +kernel
theorem dX6_init_42 : decode cX6_init 42 = .ok (.return_, 1) := by decide +kernel
theorem dX6_size_0 : decode cX6_size 0 = .ok (.aload_n 0, 1) := by decide +kernel
theorem dX6_size_1 : decode cX6_size 1 = .ok (.getfield 24, 3) := by decide +kernel
theorem dX6_size_4 : decode cX6_size 4 = .ok (.ireturn, 1) := by decide +kernel
theorem dX6_append_0 : decode cX6_append 0 = .ok (.aload_n 0, 1) := by decide +kernel
theorem dX6_append_1 : decode cX6_append 1 = .ok (.getfield 24, 3) := by decide +kernel
theorem dX6_append_4 : decode cX6_append 4 = .ok (.ifCond .lt 35, 3) := by decide +kernel
theorem dX6_append_7 : decode cX6_append 7 = .ok (.aload_n 0, 1) := by decide +kernel
theorem dX6_append_8 : decode cX6_append 8 = .ok (.getfield 24, 3) := by decide +kernel
theorem dX6_append_11 : decode cX6_append 11 = .ok (.aload_n 0, 1) := by decide +kernel
theorem dX6_append_12 : decode cX6_append 12 = .ok (.getfield 9, 3) := by decide +kernel
theorem dX6_append_15 : decode cX6_append 15 = .ok (.arraylength, 1) := by decide +kernel
theorem dX6_append_16 : decode cX6_append 16 = .ok (.if_icmp .ge 23, 3) := by decide +kernel
theorem dX6_append_19 : decode cX6_append 19 = .ok (.aload_n 0, 1) := by decide +kernel
theorem dX6_append_20 : decode cX6_append 20 = .ok (.getfield 9, 3) := by decide +kernel
theorem dX6_append_23 : decode cX6_append 23 = .ok (.aload_n 0, 1) := by decide +kernel
theorem dX6_append_24 : decode cX6_append 24 = .ok (.getfield 24, 3) := by decide +kernel
theorem dX6_append_27 : decode cX6_append 27 = .ok (.iload_n 1, 1) := by decide +kernel
theorem dX6_append_28 : decode cX6_append 28 = .ok (.bastore, 1) := by decide +kernel
theorem dX6_append_29 : decode cX6_append 29 = .ok (.aload_n 0, 1) := by decide +kernel
theorem dX6_append_30 : decode cX6_append 30 = .ok (.dup, 1) := by decide +kernel
theorem dX6_append_31 : decode cX6_append 31 = .ok (.getfield 24, 3) := by decide +kernel
theorem dX6_append_34 : decode cX6_append 34 = .ok (.iconst 1, 1) := by decide +kernel
theorem dX6_append_35 : decode cX6_append 35 = .ok (.iadd, 1) := by decide +kernel
theorem dX6_append_36 : decode cX6_append 36 = .ok (.putfield 24, 3) := by decide +kernel
theorem dX6_append_39 : decode cX6_append 39 = .ok (.return_, 1) := by decide +kernel
theorem dX6_makeEmpty_0 : decode cX6_makeEmpty 0 = .ok (.aload_n 0, 1) := by decide +kernel
theorem dX6_makeEmpty_1 : decode cX6_makeEmpty 1 = .ok (.getfield 24, 3) := by decide +kernel
theorem dX6_makeEmpty_4 : decode cX6_makeEmpty 4 = .ok (.istore_n 1, 1) := by decide +kernel
theorem dX6_makeEmpty_5 : decode cX6_makeEmpty 5 = .ok (.aload_n 0, 1) := by decide +kernel
theorem dX6_makeEmpty_6 : decode cX6_makeEmpty 6 = .ok (.iconst 0, 1) := by decide +kernel
theorem dX6_makeEmpty_7 : decode cX6_makeEmpty 7 = .ok (.putfield 24, 3) := by decide +kernel
theorem dX6_makeEmpty_10 : decode cX6_makeEmpty 10 = .ok (.iload_n 1, 1) := by decide +kernel
theorem dX6_makeEmpty_11 : decode cX6_makeEmpty 11 = .ok (.ireturn, 1) := by decide +kernel
set_option maxRecDepth 20000 in
theorem ggX6_itemCount_X7_size : GoodIn wsX6_itemCount wsX7_size := goodIn_r _ [6, 7, 13, 14, 15, 16] (by decide +kernel) (by decide +kernel)
set_option maxRecDepth 20000 in
theorem gX6_itemCount_X7_size : GoodIn wsX6_itemCount (wsV RX6 34 RX7 yX7_size wsX7_size) := goodIn_app (goodIn_of _ (by decide +kernel)) ggX6_itemCount_X7_size
theorem dX6_itemCount_0 : decode cX6_itemCount 0 = .ok (.aload_n 0, 1) := by decide +kernel
theorem dX6_itemCount_1 : decode cX6_itemCount 1 = .ok (.getfield 20, 3) := by decide +kernel
theorem dX6_itemCount_4 : decode cX6_itemCount 4 = .ok (.invokevirtual 34, 3) := by decide +kernel
theorem dX6_itemCount_7 : decode cX6_itemCount 7 = .ok (.ireturn, 1) := by decide +kernel
set_option maxRecDepth 20000 in
theorem ggX6_sortOf_X7_at : GoodIn wsX6_sortOf wsX7_at := goodIn_r _ [6, 7, 8, 14, 15, 16, 17] (by decide +kernel) (by decide +kernel)
set_option maxRecDepth 20000 in
theorem gX6_sortOf_X7_at : GoodIn wsX6_sortOf (wsV RX6 38 RX7 yX7_at wsX7_at) := goodIn_app (goodIn_of _ (by decide +kernel)) ggX6_sortOf_X7_at
theorem dX6_sortOf_0 : decode cX6_sortOf 0 = .ok (.aload_n 0, 1) := by decide +kernel
theorem dX6_sortOf_1 : decode cX6_sortOf 1 = .ok (.getfield 20, 3) := by decide +kernel
theorem dX6_sortOf_4 : decode cX6_sortOf 4 = .ok (.iload_n 1, 1) := by decide +kernel
theorem dX6_sortOf_5 : decode cX6_sortOf 5 = .ok (.iconst 0, 1) := by decide +kernel
theorem dX6_sortOf_6 : decode cX6_sortOf 6 = .ok (.invokevirtual 38, 3) := by decide +kernel
theorem dX6_sortOf_9 : decode cX6_sortOf 9 = .ok (.ireturn, 1) := by decide +kernel
set_option maxRecDepth 20000 in
theorem ggX6_numberOf_X7_at : GoodIn wsX6_numberOf wsX7_at := goodIn_r _ [6, 7, 8, 14, 15, 16, 17] (by decide +kernel) (by decide +kernel)
set_option maxRecDepth 20000 in
theorem gX6_numberOf_X7_at : GoodIn wsX6_numberOf (wsV RX6 38 RX7 yX7_at wsX7_at) := goodIn_app (goodIn_of _ (by decide +kernel)) ggX6_numberOf_X7_at
theorem dX6_numberOf_0 : decode cX6_numberOf 0 = .ok (.aload_n 0, 1) := by decide +kernel
theorem dX6_numberOf_1 : decode cX6_numberOf 1 = .ok (.getfield 20, 3) := by decide +kernel
theorem dX6_numberOf_4 : decode cX6_numberOf 4 = .ok (.iload_n 1, 1) := by decide +kernel
theorem dX6_numberOf_5 : decode cX6_numberOf 5 = .ok (.iconst 1, 1) := by decide +kernel
theorem dX6_numberOf_6 : decode cX6_numberOf 6 = .ok (.iload_n 2, 1) := by decide +kernel
theorem dX6_numberOf_7 : decode cX6_numberOf 7 = .ok (.iadd, 1) := by decide +kernel
theorem dX6_numberOf_8 : decode cX6_numberOf 8 = .ok (.invokevirtual 38, 3) := by decide +kernel
theorem dX6_numberOf_11 : decode cX6_numberOf 11 = .ok (.ireturn, 1) := by decide +kernel
set_option maxRecDepth 20000 in
theorem ggX6_findFault_X7_dropAll : GoodIn wsX6_findFault wsX7_dropAll := goodIn_r _ [9, 10, 118, 119, 120, 121] (by decide +kernel) (by decide +kernel)
set_option maxRecDepth 20000 in
theorem gX6_findFault_X7_dropAll : GoodIn wsX6_findFault (wsV RX6 42 RX7 yX7_dropAll wsX7_dropAll) := goodIn_app (goodIn_of _ (by decide +kernel)) ggX6_findFault_X7_dropAll
set_option maxRecDepth 20000 in
theorem ggX6_findFault_X6_nextToken : GoodIn wsX6_findFault wsX6_nextToken := goodIn_r _ [15, 2, 4, 3, 16, 17, 18, 14, 19, 20, 21, 22, 23, 24, 25, 26, 113, 114, 115, 116, 117] (by decide +kernel) (by decide +kernel)
set_option maxRecDepth 20000 in
theorem gX6_findFault_X6_nextToken : GoodIn wsX6_findFault (wsV RX6 45 RX6 yX6_nextToken wsX6_nextToken) := goodIn_app (goodIn_of _ (by decide +kernel)) ggX6_findFault_X6_nextToken
set_option maxRecDepth 20000 in
theorem ggX6_findFault_X6_wordAtHand : GoodIn wsX6_findFault wsX6_wordAtHand := goodIn_r _ [30, 31, 32, 14, 33, 34, 35, 36, 37, 2, 4, 38, 39, 40, 41, 42, 43, 44, 45, 46, 47, 48, 49, 50, 51, 52, 53, 54, 55, 56, 57, 58, 59, 60, 61, 62, 63, 64, 65, 66, 67, 68, 69, 70, 71, 72, 73, 74, 75, 76, 77, 78, 79, 80, 81, 82, 83, 84, 85, 86, 16, 17, 18, 19, 20, 113, 114, 115, 116, 117] (by decide +kernel) (by decide +kernel)
set_option maxRecDepth 20000 in
theorem gX6_findFault_X6_wordAtHand : GoodIn wsX6_findFault (wsV RX6 48 RX6 yX6_wordAtHand wsX6_wordAtHand) := goodIn_app (goodIn_of _ (by decide +kernel)) ggX6_findFault_X6_wordAtHand
set_option maxRecDepth 20000 in
theorem ggX6_findFault_X7_open : GoodIn wsX6_findFault wsX7_open := goodIn_r _ [90, 10, 91, 92, 93, 8, 94, 95, 118, 119, 120, 121] (by decide +kernel) (by decide +kernel)
set_option maxRecDepth 20000 in
theorem gX6_findFault_X7_open : GoodIn wsX6_findFault (wsV RX6 51 RX7 yX7_open wsX7_open) := goodIn_app (goodIn_of _ (by decide +kernel)) ggX6_findFault_X7_open
set_option maxRecDepth 20000 in
theorem ggX6_findFault_X7_put : GoodIn wsX6_findFault wsX7_put := goodIn_r _ [99, 100, 101, 118, 119, 120, 121] (by decide +kernel) (by decide +kernel)
set_option maxRecDepth 20000 in
theorem gX6_findFault_X7_put : GoodIn wsX6_findFault (wsV RX6 54 RX7 yX7_put wsX7_put) := goodIn_app (goodIn_of _ (by decide +kernel)) ggX6_findFault_X7_put
set_option maxRecDepth 20000 in
theorem ggX6_findFault_X7_at : GoodIn wsX6_findFault wsX7_at := goodIn_r _ [105, 100, 101, 118, 119, 120, 121] (by decide +kernel) (by decide +kernel)
set_option maxRecDepth 20000 in
theorem gX6_findFault_X7_at : GoodIn wsX6_findFault (wsV RX6 38 RX7 yX7_at wsX7_at) := goodIn_app (goodIn_of _ (by decide +kernel)) ggX6_findFault_X7_at
set_option maxRecDepth 20000 in
theorem ggX6_findFault_X6_numbersIn : GoodIn wsX6_findFault wsX6_numbersIn := goodIn_r _ [108] (by decide +kernel) (by decide +kernel)
set_option maxRecDepth 20000 in
theorem gX6_findFault_X6_numbersIn : GoodIn wsX6_findFault (va_wsS RX6 58 yX6_numbersIn wsX6_numbersIn) := goodIn_app (goodIn_of _ (by decide +kernel)) ggX6_findFault_X6_numbersIn
set_option maxRecDepth 20000 in
theorem ggX6_findFault_X6_numberAtHand : GoodIn wsX6_findFault wsX6_numberAtHand := goodIn_r _ [112, 4, 2, 16, 17, 18, 14, 19, 20, 113, 114, 115, 116, 117] (by decide +kernel) (by decide +kernel)
set_option maxRecDepth 20000 in
theorem gX6_findFault_X6_numberAtHand : GoodIn wsX6_findFault (wsV RX6 62 RX6 yX6_numberAtHand wsX6_numberAtHand) := goodIn_app (goodIn_of _ (by decide +kernel)) ggX6_findFault_X6_numberAtHand
theorem dX6_findFault_0 : decode cX6_findFault 0 = .ok (.aload_n 0, 1) := by decide +kernel
theorem dX6_findFault_1 : decode cX6_findFault 1 = .ok (.getfield 20, 3) := by decide +kernel
theorem dX6_findFault_4 : decode cX6_findFault 4 = .ok (.invokevirtual 42, 3) := by decide +kernel
theorem dX6_findFault_7 : decode cX6_findFault 7 = .ok (.aload_n 0, 1) := by decide +kernel
theorem dX6_findFault_8 : decode cX6_findFault 8 = .ok (.iconst 0, 1) := by decide +kernel
theorem dX6_findFault_9 : decode cX6_findFault 9 = .ok (.putfield 31, 3) := by decide +kernel
theorem dX6_findFault_12 : decode cX6_findFault 12 = .ok (.iconst 0, 1) := by decide +kernel
theorem dX6_findFault_13 : decode cX6_findFault 13 = .ok (.istore_n 1, 1) := by decide +kernel
theorem dX6_findFault_14 : decode cX6_findFault 14 = .ok (.iconst 0, 1) := by decide +kernel
theorem dX6_findFault_15 : decode cX6_findFault 15 = .ok (.istore_n 2, 1) := by decide +kernel
theorem dX6_findFault_16 : decode cX6_findFault 16 = .ok (.iconst 0, 1) := by decide +kernel
theorem dX6_findFault_17 : decode cX6_findFault 17 = .ok (.istore_n 3, 1) := by decide +kernel
theorem dX6_findFault_18 : decode cX6_findFault 18 = .ok (.iconst 0, 1) := by decide +kernel
theorem dX6_findFault_19 : decode cX6_findFault 19 = .ok (.istore 4, 2) := by decide +kernel
theorem dX6_findFault_21 : decode cX6_findFault 21 = .ok (.iload 4, 2) := by decide +kernel
theorem dX6_findFault_23 : decode cX6_findFault 23 = .ok (.sipush 200, 3) := by decide +kernel
theorem dX6_findFault_26 : decode cX6_findFault 26 = .ok (.if_icmp .gt 149, 3) := by decide +kernel
theorem dX6_findFault_29 : decode cX6_findFault 29 = .ok (.aload_n 0, 1) := by decide +kernel
theorem dX6_findFault_30 : decode cX6_findFault 30 = .ok (.invokevirtual 45, 3) := by decide +kernel
theorem dX6_findFault_33 : decode cX6_findFault 33 = .ok (.istore 5, 2) := by decide +kernel
theorem dX6_findFault_35 : decode cX6_findFault 35 = .ok (.iload 5, 2) := by decide +kernel
theorem dX6_findFault_37 : decode cX6_findFault 37 = .ok (.ifCond .ne 16, 3) := by decide +kernel
theorem dX6_findFault_40 : decode cX6_findFault 40 = .ok (.iload_n 1, 1) := by decide +kernel
theorem dX6_findFault_41 : decode cX6_findFault 41 = .ok (.ifCond .eq 10, 3) := by decide +kernel
theorem dX6_findFault_44 : decode cX6_findFault 44 = .ok (.aload_n 0, 1) := by decide +kernel
theorem dX6_findFault_45 : decode cX6_findFault 45 = .ok (.getfield 24, 3) := by decide +kernel
theorem dX6_findFault_48 : decode cX6_findFault 48 = .ok (.goto 4, 3) := by decide +kernel
theorem dX6_findFault_51 : decode cX6_findFault 51 = .ok (.iconst (-1), 1) := by decide +kernel
theorem dX6_findFault_52 : decode cX6_findFault 52 = .ok (.ireturn, 1) := by decide +kernel
theorem dX6_findFault_53 : decode cX6_findFault 53 = .ok (.iload_n 1, 1) := by decide +kernel
theorem dX6_findFault_54 : decode cX6_findFault 54 = .ok (.ifCond .ne 56, 3) := by decide +kernel
theorem dX6_findFault_57 : decode cX6_findFault 57 = .ok (.iload 5, 2) := by decide +kernel
theorem dX6_findFault_59 : decode cX6_findFault 59 = .ok (.iconst 1, 1) := by decide +kernel
theorem dX6_findFault_60 : decode cX6_findFault 60 = .ok (.if_icmp .ne 10, 3) := by decide +kernel
theorem dX6_findFault_63 : decode cX6_findFault 63 = .ok (.aload_n 0, 1) := by decide +kernel
theorem dX6_findFault_64 : decode cX6_findFault 64 = .ok (.invokevirtual 48, 3) := by decide +kernel
theorem dX6_findFault_67 : decode cX6_findFault 67 = .ok (.goto 4, 3) := by decide +kernel
theorem dX6_findFault_70 : decode cX6_findFault 70 = .ok (.iconst (-1), 1) := by decide +kernel
theorem dX6_findFault_71 : decode cX6_findFault 71 = .ok (.istore 6, 2) := by decide +kernel
theorem dX6_findFault_73 : decode cX6_findFault 73 = .ok (.iload 6, 2) := by decide +kernel
theorem dX6_findFault_75 : decode cX6_findFault 75 = .ok (.iconst (-1), 1) := by decide +kernel
theorem dX6_findFault_76 : decode cX6_findFault 76 = .ok (.if_icmp .ne 8, 3) := by decide +kernel
theorem dX6_findFault_79 : decode cX6_findFault 79 = .ok (.aload_n 0, 1) := by decide +kernel
theorem dX6_findFault_80 : decode cX6_findFault 80 = .ok (.getfield 28, 3) := by decide +kernel
theorem dX6_findFault_83 : decode cX6_findFault 83 = .ok (.ireturn, 1) := by decide +kernel
theorem dX6_findFault_84 : decode cX6_findFault 84 = .ok (.aload_n 0, 1) := by decide +kernel
theorem dX6_findFault_85 : decode cX6_findFault 85 = .ok (.getfield 20, 3) := by decide +kernel
theorem dX6_findFault_88 : decode cX6_findFault 88 = .ok (.invokevirtual 51, 3) := by decide +kernel
theorem dX6_findFault_91 : decode cX6_findFault 91 = .ok (.istore_n 2, 1) := by decide +kernel
theorem dX6_findFault_92 : decode cX6_findFault 92 = .ok (.aload_n 0, 1) := by decide +kernel
theorem dX6_findFault_93 : decode cX6_findFault 93 = .ok (.getfield 20, 3) := by decide +kernel
theorem dX6_findFault_96 : decode cX6_findFault 96 = .ok (.iload_n 2, 1) := by decide +kernel
theorem dX6_findFault_97 : decode cX6_findFault 97 = .ok (.iconst 0, 1) := by decide +kernel
theorem dX6_findFault_98 : decode cX6_findFault 98 = .ok (.iload 6, 2) := by decide +kernel
theorem dX6_findFault_100 : decode cX6_findFault 100 = .ok (.invokevirtual 54, 3) := by decide +kernel
theorem dX6_findFault_103 : decode cX6_findFault 103 = .ok (.iconst 1, 1) := by decide +kernel
theorem dX6_findFault_104 : decode cX6_findFault 104 = .ok (.istore_n 1, 1) := by decide +kernel
theorem dX6_findFault_105 : decode cX6_findFault 105 = .ok (.iconst 0, 1) := by decide +kernel
theorem dX6_findFault_106 : decode cX6_findFault 106 = .ok (.istore_n 3, 1) := by decide +kernel
theorem dX6_findFault_107 : decode cX6_findFault 107 = .ok (.goto 62, 3) := by decide +kernel
theorem dX6_findFault_110 : decode cX6_findFault 110 = .ok (.iload_n 3, 1) := by decide +kernel
theorem dX6_findFault_111 : decode cX6_findFault 111 = .ok (.aload_n 0, 1) := by decide +kernel
theorem dX6_findFault_112 : decode cX6_findFault 112 = .ok (.getfield 20, 3) := by decide +kernel
theorem dX6_findFault_115 : decode cX6_findFault 115 = .ok (.iload_n 2, 1) := by decide +kernel
theorem dX6_findFault_116 : decode cX6_findFault 116 = .ok (.iconst 0, 1) := by decide +kernel
theorem dX6_findFault_117 : decode cX6_findFault 117 = .ok (.invokevirtual 38, 3) := by decide +kernel
theorem dX6_findFault_120 : decode cX6_findFault 120 = .ok (.invokestatic 58, 3) := by decide +kernel
theorem dX6_findFault_123 : decode cX6_findFault 123 = .ok (.if_icmp .ge 33, 3) := by decide +kernel
theorem dX6_findFault_126 : decode cX6_findFault 126 = .ok (.iload 5, 2) := by decide +kernel
theorem dX6_findFault_128 : decode cX6_findFault 128 = .ok (.iconst 2, 1) := by decide +kernel
theorem dX6_findFault_129 : decode cX6_findFault 129 = .ok (.if_icmp .eq 8, 3) := by decide +kernel
theorem dX6_findFault_132 : decode cX6_findFault 132 = .ok (.aload_n 0, 1) := by decide +kernel
theorem dX6_findFault_133 : decode cX6_findFault 133 = .ok (.getfield 28, 3) := by decide +kernel
theorem dX6_findFault_136 : decode cX6_findFault 136 = .ok (.ireturn, 1) := by decide +kernel
theorem dX6_findFault_137 : decode cX6_findFault 137 = .ok (.iinc 3 1, 3) := by decide +kernel
theorem dX6_findFault_140 : decode cX6_findFault 140 = .ok (.aload_n 0, 1) := by decide +kernel
theorem dX6_findFault_141 : decode cX6_findFault 141 = .ok (.getfield 20, 3) := by decide +kernel
theorem dX6_findFault_144 : decode cX6_findFault 144 = .ok (.iload_n 2, 1) := by decide +kernel
theorem dX6_findFault_145 : decode cX6_findFault 145 = .ok (.iload_n 3, 1) := by decide +kernel
theorem dX6_findFault_146 : decode cX6_findFault 146 = .ok (.aload_n 0, 1) := by decide +kernel
theorem dX6_findFault_147 : decode cX6_findFault 147 = .ok (.invokevirtual 62, 3) := by decide +kernel
theorem dX6_findFault_150 : decode cX6_findFault 150 = .ok (.invokevirtual 54, 3) := by decide +kernel
theorem dX6_findFault_153 : decode cX6_findFault 153 = .ok (.goto 16, 3) := by decide +kernel
theorem dX6_findFault_156 : decode cX6_findFault 156 = .ok (.iload 5, 2) := by decide +kernel
theorem dX6_findFault_158 : decode cX6_findFault 158 = .ok (.iconst 3, 1) := by decide +kernel
theorem dX6_findFault_159 : decode cX6_findFault 159 = .ok (.if_icmp .eq 8, 3) := by decide +kernel
theorem dX6_findFault_162 : decode cX6_findFault 162 = .ok (.aload_n 0, 1) := by decide +kernel
theorem dX6_findFault_163 : decode cX6_findFault 163 = .ok (.getfield 28, 3) := by decide +kernel
theorem dX6_findFault_166 : decode cX6_findFault 166 = .ok (.ireturn, 1) := by decide +kernel
theorem dX6_findFault_167 : decode cX6_findFault 167 = .ok (.iconst 0, 1) := by decide +kernel
theorem dX6_findFault_168 : decode cX6_findFault 168 = .ok (.istore_n 1, 1) := by decide +kernel
theorem dX6_findFault_169 : decode cX6_findFault 169 = .ok (.iinc 4 1, 3) := by decide +kernel
theorem dX6_findFault_172 : decode cX6_findFault 172 = .ok (.goto (-151), 3) := by decide +kernel
theorem dX6_findFault_175 : decode cX6_findFault 175 = .ok (.aload_n 0, 1) := by decide +kernel
theorem dX6_findFault_176 : decode cX6_findFault 176 = .ok (.getfield 24, 3) := by decide +kernel
theorem dX6_findFault_179 : decode cX6_findFault 179 = .ok (.ireturn, 1) := by decide +kernel
set_option maxRecDepth 20000 in
theorem ggX6_nextToken_X6_byteAt : GoodIn wsX6_nextToken wsX6_byteAt := goodIn_r _ [8, 9, 16, 17, 18, 19, 20] (by decide +kernel) (by decide +kernel)
set_option maxRecDepth 20000 in
theorem gX6_nextToken_X6_byteAt : GoodIn wsX6_nextToken (wsV RX6 65 RX6 yX6_byteAt wsX6_byteAt) := goodIn_app (goodIn_of _ (by decide +kernel)) ggX6_nextToken_X6_byteAt
set_option maxRecDepth 20000 in
theorem ggX6_nextToken_X6_isLetter : GoodIn wsX6_nextToken wsX6_isLetter := goodIn_r _ [12] (by decide +kernel) (by decide +kernel)
set_option maxRecDepth 20000 in
theorem gX6_nextToken_X6_isLetter : GoodIn wsX6_nextToken (va_wsS RX6 68 yX6_isLetter wsX6_isLetter) := goodIn_app (goodIn_of _ (by decide +kernel)) ggX6_nextToken_X6_isLetter
set_option maxRecDepth 20000 in
theorem ggX6_nextToken_X6_isFigure : GoodIn wsX6_nextToken wsX6_isFigure := goodIn_r _ [15] (by decide +kernel) (by decide +kernel)
set_option maxRecDepth 20000 in
theorem gX6_nextToken_X6_isFigure : GoodIn wsX6_nextToken (va_wsS RX6 72 yX6_isFigure wsX6_isFigure) := goodIn_app (goodIn_of _ (by decide +kernel)) ggX6_nextToken_X6_isFigure
theorem dX6_nextToken_0 : decode cX6_nextToken 0 = .ok (.aload_n 0, 1) := by decide +kernel
theorem dX6_nextToken_1 : decode cX6_nextToken 1 = .ok (.aload_n 0, 1) := by decide +kernel
theorem dX6_nextToken_2 : decode cX6_nextToken 2 = .ok (.getfield 31, 3) := by decide +kernel
theorem dX6_nextToken_5 : decode cX6_nextToken 5 = .ok (.putfield 28, 3) := by decide +kernel
theorem dX6_nextToken_8 : decode cX6_nextToken 8 = .ok (.aload_n 0, 1) := by decide +kernel
theorem dX6_nextToken_9 : decode cX6_nextToken 9 = .ok (.getfield 28, 3) := by decide +kernel
theorem dX6_nextToken_12 : decode cX6_nextToken 12 = .ok (.aload_n 0, 1) := by decide +kernel
theorem dX6_nextToken_13 : decode cX6_nextToken 13 = .ok (.getfield 24, 3) := by decide +kernel
theorem dX6_nextToken_16 : decode cX6_nextToken 16 = .ok (.if_icmp .ge 29, 3) := by decide +kernel
theorem dX6_nextToken_19 : decode cX6_nextToken 19 = .ok (.aload_n 0, 1) := by decide +kernel
theorem dX6_nextToken_20 : decode cX6_nextToken 20 = .ok (.aload_n 0, 1) := by decide +kernel
theorem dX6_nextToken_21 : decode cX6_nextToken 21 = .ok (.getfield 28, 3) := by decide +kernel
theorem dX6_nextToken_24 : decode cX6_nextToken 24 = .ok (.invokevirtual 65, 3) := by decide +kernel
theorem dX6_nextToken_27 : decode cX6_nextToken 27 = .ok (.bipush 32, 2) := by decide +kernel
theorem dX6_nextToken_29 : decode cX6_nextToken 29 = .ok (.if_icmp .ne 16, 3) := by decide +kernel
theorem dX6_nextToken_32 : decode cX6_nextToken 32 = .ok (.aload_n 0, 1) := by decide +kernel
theorem dX6_nextToken_33 : decode cX6_nextToken 33 = .ok (.dup, 1) := by decide +kernel
theorem dX6_nextToken_34 : decode cX6_nextToken 34 = .ok (.getfield 28, 3) := by decide +kernel
theorem dX6_nextToken_37 : decode cX6_nextToken 37 = .ok (.iconst 1, 1) := by decide +kernel
theorem dX6_nextToken_38 : decode cX6_nextToken 38 = .ok (.iadd, 1) := by decide +kernel
theorem dX6_nextToken_39 : decode cX6_nextToken 39 = .ok (.putfield 28, 3) := by decide +kernel
theorem dX6_nextToken_42 : decode cX6_nextToken 42 = .ok (.goto (-34), 3) := by decide +kernel
theorem dX6_nextToken_45 : decode cX6_nextToken 45 = .ok (.aload_n 0, 1) := by decide +kernel
theorem dX6_nextToken_46 : decode cX6_nextToken 46 = .ok (.aload_n 0, 1) := by decide +kernel
theorem dX6_nextToken_47 : decode cX6_nextToken 47 = .ok (.getfield 28, 3) := by decide +kernel
theorem dX6_nextToken_50 : decode cX6_nextToken 50 = .ok (.iconst 1, 1) := by decide +kernel
theorem dX6_nextToken_51 : decode cX6_nextToken 51 = .ok (.iadd, 1) := by decide +kernel
theorem dX6_nextToken_52 : decode cX6_nextToken 52 = .ok (.putfield 31, 3) := by decide +kernel
theorem dX6_nextToken_55 : decode cX6_nextToken 55 = .ok (.aload_n 0, 1) := by decide +kernel
theorem dX6_nextToken_56 : decode cX6_nextToken 56 = .ok (.getfield 28, 3) := by decide +kernel
theorem dX6_nextToken_59 : decode cX6_nextToken 59 = .ok (.aload_n 0, 1) := by decide +kernel
theorem dX6_nextToken_60 : decode cX6_nextToken 60 = .ok (.getfield 24, 3) := by decide +kernel
theorem dX6_nextToken_63 : decode cX6_nextToken 63 = .ok (.if_icmp .lt 5, 3) := by decide +kernel
theorem dX6_nextToken_66 : decode cX6_nextToken 66 = .ok (.iconst 0, 1) := by decide +kernel
theorem dX6_nextToken_67 : decode cX6_nextToken 67 = .ok (.ireturn, 1) := by decide +kernel
theorem dX6_nextToken_68 : decode cX6_nextToken 68 = .ok (.aload_n 0, 1) := by decide +kernel
theorem dX6_nextToken_69 : decode cX6_nextToken 69 = .ok (.aload_n 0, 1) := by decide +kernel
theorem dX6_nextToken_70 : decode cX6_nextToken 70 = .ok (.getfield 28, 3) := by decide +kernel
theorem dX6_nextToken_73 : decode cX6_nextToken 73 = .ok (.invokevirtual 65, 3) := by decide +kernel
theorem dX6_nextToken_76 : decode cX6_nextToken 76 = .ok (.istore_n 1, 1) := by decide +kernel
theorem dX6_nextToken_77 : decode cX6_nextToken 77 = .ok (.iload_n 1, 1) := by decide +kernel
theorem dX6_nextToken_78 : decode cX6_nextToken 78 = .ok (.invokestatic 68, 3) := by decide +kernel
theorem dX6_nextToken_81 : decode cX6_nextToken 81 = .ok (.ifCond .eq 43, 3) := by decide +kernel
theorem dX6_nextToken_84 : decode cX6_nextToken 84 = .ok (.aload_n 0, 1) := by decide +kernel
theorem dX6_nextToken_85 : decode cX6_nextToken 85 = .ok (.getfield 31, 3) := by decide +kernel
theorem dX6_nextToken_88 : decode cX6_nextToken 88 = .ok (.aload_n 0, 1) := by decide +kernel
theorem dX6_nextToken_89 : decode cX6_nextToken 89 = .ok (.getfield 24, 3) := by decide +kernel
theorem dX6_nextToken_92 : decode cX6_nextToken 92 = .ok (.if_icmp .ge 30, 3) := by decide +kernel
theorem dX6_nextToken_95 : decode cX6_nextToken 95 = .ok (.aload_n 0, 1) := by decide +kernel
theorem dX6_nextToken_96 : decode cX6_nextToken 96 = .ok (.aload_n 0, 1) := by decide +kernel
theorem dX6_nextToken_97 : decode cX6_nextToken 97 = .ok (.getfield 31, 3) := by decide +kernel
theorem dX6_nextToken_100 : decode cX6_nextToken 100 = .ok (.invokevirtual 65, 3) := by decide +kernel
theorem dX6_nextToken_103 : decode cX6_nextToken 103 = .ok (.invokestatic 68, 3) := by decide +kernel
theorem dX6_nextToken_106 : decode cX6_nextToken 106 = .ok (.ifCond .eq 16, 3) := by decide +kernel
theorem dX6_nextToken_109 : decode cX6_nextToken 109 = .ok (.aload_n 0, 1) := by decide +kernel
theorem dX6_nextToken_110 : decode cX6_nextToken 110 = .ok (.dup, 1) := by decide +kernel
theorem dX6_nextToken_111 : decode cX6_nextToken 111 = .ok (.getfield 31, 3) := by decide +kernel
theorem dX6_nextToken_114 : decode cX6_nextToken 114 = .ok (.iconst 1, 1) := by decide +kernel
theorem dX6_nextToken_115 : decode cX6_nextToken 115 = .ok (.iadd, 1) := by decide +kernel
theorem dX6_nextToken_116 : decode cX6_nextToken 116 = .ok (.putfield 31, 3) := by decide +kernel
theorem dX6_nextToken_119 : decode cX6_nextToken 119 = .ok (.goto (-35), 3) := by decide +kernel
theorem dX6_nextToken_122 : decode cX6_nextToken 122 = .ok (.iconst 1, 1) := by decide +kernel
theorem dX6_nextToken_123 : decode cX6_nextToken 123 = .ok (.ireturn, 1) := by decide +kernel
theorem dX6_nextToken_124 : decode cX6_nextToken 124 = .ok (.iload_n 1, 1) := by decide +kernel
theorem dX6_nextToken_125 : decode cX6_nextToken 125 = .ok (.invokestatic 72, 3) := by decide +kernel
theorem dX6_nextToken_128 : decode cX6_nextToken 128 = .ok (.ifCond .eq 60, 3) := by decide +kernel
theorem dX6_nextToken_131 : decode cX6_nextToken 131 = .ok (.aload_n 0, 1) := by decide +kernel
theorem dX6_nextToken_132 : decode cX6_nextToken 132 = .ok (.getfield 31, 3) := by decide +kernel
theorem dX6_nextToken_135 : decode cX6_nextToken 135 = .ok (.aload_n 0, 1) := by decide +kernel
theorem dX6_nextToken_136 : decode cX6_nextToken 136 = .ok (.getfield 24, 3) := by decide +kernel
theorem dX6_nextToken_139 : decode cX6_nextToken 139 = .ok (.if_icmp .ge 30, 3) := by decide +kernel
theorem dX6_nextToken_142 : decode cX6_nextToken 142 = .ok (.aload_n 0, 1) := by decide +kernel
theorem dX6_nextToken_143 : decode cX6_nextToken 143 = .ok (.aload_n 0, 1) := by decide +kernel
theorem dX6_nextToken_144 : decode cX6_nextToken 144 = .ok (.getfield 31, 3) := by decide +kernel
theorem dX6_nextToken_147 : decode cX6_nextToken 147 = .ok (.invokevirtual 65, 3) := by decide +kernel
theorem dX6_nextToken_150 : decode cX6_nextToken 150 = .ok (.invokestatic 72, 3) := by decide +kernel
theorem dX6_nextToken_153 : decode cX6_nextToken 153 = .ok (.ifCond .eq 16, 3) := by decide +kernel
theorem dX6_nextToken_156 : decode cX6_nextToken 156 = .ok (.aload_n 0, 1) := by decide +kernel
theorem dX6_nextToken_157 : decode cX6_nextToken 157 = .ok (.dup, 1) := by decide +kernel
theorem dX6_nextToken_158 : decode cX6_nextToken 158 = .ok (.getfield 31, 3) := by decide +kernel
theorem dX6_nextToken_161 : decode cX6_nextToken 161 = .ok (.iconst 1, 1) := by decide +kernel
theorem dX6_nextToken_162 : decode cX6_nextToken 162 = .ok (.iadd, 1) := by decide +kernel
theorem dX6_nextToken_163 : decode cX6_nextToken 163 = .ok (.putfield 31, 3) := by decide +kernel
theorem dX6_nextToken_166 : decode cX6_nextToken 166 = .ok (.goto (-35), 3) := by decide +kernel
theorem dX6_nextToken_169 : decode cX6_nextToken 169 = .ok (.aload_n 0, 1) := by decide +kernel
theorem dX6_nextToken_170 : decode cX6_nextToken 170 = .ok (.getfield 31, 3) := by decide +kernel
theorem dX6_nextToken_173 : decode cX6_nextToken 173 = .ok (.aload_n 0, 1) := by decide +kernel
theorem dX6_nextToken_174 : decode cX6_nextToken 174 = .ok (.getfield 28, 3) := by decide +kernel
theorem dX6_nextToken_177 : decode cX6_nextToken 177 = .ok (.isub, 1) := by decide +kernel
theorem dX6_nextToken_178 : decode cX6_nextToken 178 = .ok (.iconst 2, 1) := by decide +kernel
theorem dX6_nextToken_179 : decode cX6_nextToken 179 = .ok (.if_icmp .gt 7, 3) := by decide +kernel
theorem dX6_nextToken_182 : decode cX6_nextToken 182 = .ok (.iconst 2, 1) := by decide +kernel
theorem dX6_nextToken_183 : decode cX6_nextToken 183 = .ok (.goto 4, 3) := by decide +kernel
theorem dX6_nextToken_186 : decode cX6_nextToken 186 = .ok (.iconst 4, 1) := by decide +kernel
theorem dX6_nextToken_187 : decode cX6_nextToken 187 = .ok (.ireturn, 1) := by decide +kernel
theorem dX6_nextToken_188 : decode cX6_nextToken 188 = .ok (.iload_n 1, 1) := by decide +kernel
theorem dX6_nextToken_189 : decode cX6_nextToken 189 = .ok (.bipush 59, 2) := by decide +kernel
theorem dX6_nextToken_191 : decode cX6_nextToken 191 = .ok (.if_icmp .ne 7, 3) := by decide +kernel
theorem dX6_nextToken_194 : decode cX6_nextToken 194 = .ok (.iconst 3, 1) := by decide +kernel
theorem dX6_nextToken_195 : decode cX6_nextToken 195 = .ok (.goto 4, 3) := by decide +kernel
theorem dX6_nextToken_198 : decode cX6_nextToken 198 = .ok (.iconst 4, 1) := by decide +kernel
theorem dX6_nextToken_199 : decode cX6_nextToken 199 = .ok (.ireturn, 1) := by decide +kernel
theorem dX6_byteAt_0 : decode cX6_byteAt 0 = .ok (.iload_n 1, 1) := by decide +kernel
theorem dX6_byteAt_1 : decode cX6_byteAt 1 = .ok (.ifCond .lt 21, 3) := by decide +kernel
theorem dX6_byteAt_4 : decode cX6_byteAt 4 = .ok (.iload_n 1, 1) := by decide +kernel
theorem dX6_byteAt_5 : decode cX6_byteAt 5 = .ok (.aload_n 0, 1) := by decide +kernel
theorem dX6_byteAt_6 : decode cX6_byteAt 6 = .ok (.getfield 9, 3) := by decide +kernel
theorem dX6_byteAt_9 : decode cX6_byteAt 9 = .ok (.arraylength, 1) := by decide +kernel
theorem dX6_byteAt_10 : decode cX6_byteAt 10 = .ok (.if_icmp .ge 12, 3) := by decide +kernel
theorem dX6_byteAt_13 : decode cX6_byteAt 13 = .ok (.aload_n 0, 1) := by decide +kernel
theorem dX6_byteAt_14 : decode cX6_byteAt 14 = .ok (.getfield 9, 3) := by decide +kernel
theorem dX6_byteAt_17 : decode cX6_byteAt 17 = .ok (.iload_n 1, 1) := by decide +kernel
theorem dX6_byteAt_18 : decode cX6_byteAt 18 = .ok (.baload, 1) := by decide +kernel
theorem dX6_byteAt_19 : decode cX6_byteAt 19 = .ok (.goto 4, 3) := by decide +kernel
theorem dX6_byteAt_22 : decode cX6_byteAt 22 = .ok (.iconst 0, 1) := by decide +kernel
theorem dX6_byteAt_23 : decode cX6_byteAt 23 = .ok (.ireturn, 1) := by decide +kernel
theorem dX6_isLetter_0 : decode cX6_isLetter 0 = .ok (.iload_n 0, 1) := by decide +kernel
theorem dX6_isLetter_1 : decode cX6_isLetter 1 = .ok (.bipush 97, 2) := by decide +kernel
theorem dX6_isLetter_3 : decode cX6_isLetter 3 = .ok (.if_icmp .lt 13, 3) := by decide +kernel
theorem dX6_isLetter_6 : decode cX6_isLetter 6 = .ok (.iload_n 0, 1) := by decide +kernel
theorem dX6_isLetter_7 : decode cX6_isLetter 7 = .ok (.bipush 122, 2) := by decide +kernel
theorem dX6_isLetter_9 : decode cX6_isLetter 9 = .ok (.if_icmp .gt 7, 3) := by decide +kernel
theorem dX6_isLetter_12 : decode cX6_isLetter 12 = .ok (.iconst 1, 1) := by decide +kernel
theorem dX6_isLetter_13 : decode cX6_isLetter 13 = .ok (.goto 4, 3) := by decide +kernel
theorem dX6_isLetter_16 : decode cX6_isLetter 16 = .ok (.iconst 0, 1) := by decide +kernel
theorem dX6_isLetter_17 : decode cX6_isLetter 17 = .ok (.ireturn, 1) := by decide +kernel
theorem dX6_isFigure_0 : decode cX6_isFigure 0 = .ok (.iload_n 0, 1) := by decide +kernel
theorem dX6_isFigure_1 : decode cX6_isFigure 1 = .ok (.bipush 48, 2) := by decide +kernel
theorem dX6_isFigure_3 : decode cX6_isFigure 3 = .ok (.if_icmp .lt 13, 3) := by decide +kernel
theorem dX6_isFigure_6 : decode cX6_isFigure 6 = .ok (.iload_n 0, 1) := by decide +kernel
theorem dX6_isFigure_7 : decode cX6_isFigure 7 = .ok (.bipush 57, 2) := by decide +kernel
theorem dX6_isFigure_9 : decode cX6_isFigure 9 = .ok (.if_icmp .gt 7, 3) := by decide +kernel
theorem dX6_isFigure_12 : decode cX6_isFigure 12 = .ok (.iconst 1, 1) := by decide +kernel
theorem dX6_isFigure_13 : decode cX6_isFigure 13 = .ok (.goto 4, 3) := by decide +kernel
theorem dX6_isFigure_16 : decode cX6_isFigure 16 = .ok (.iconst 0, 1) := by decide +kernel
theorem dX6_isFigure_17 : decode cX6_isFigure 17 = .ok (.ireturn, 1) := by decide +kernel
set_option maxRecDepth 20000 in
theorem ggX6_numberAtHand_X6_byteAt : GoodIn wsX6_numberAtHand wsX6_byteAt := goodIn_r _ [7, 8, 9, 10, 11, 12, 13] (by decide +kernel) (by decide +kernel)
set_option maxRecDepth 20000 in
theorem gX6_numberAtHand_X6_byteAt : GoodIn wsX6_numberAtHand (wsV RX6 65 RX6 yX6_byteAt wsX6_byteAt) := goodIn_app (goodIn_of _ (by decide +kernel)) ggX6_numberAtHand_X6_byteAt
theorem dX6_numberAtHand_0 : decode cX6_numberAtHand 0 = .ok (.iconst 0, 1) := by decide +kernel
theorem dX6_numberAtHand_1 : decode cX6_numberAtHand 1 = .ok (.istore_n 1, 1) := by decide +kernel
theorem dX6_numberAtHand_2 : decode cX6_numberAtHand 2 = .ok (.aload_n 0, 1) := by decide +kernel
theorem dX6_numberAtHand_3 : decode cX6_numberAtHand 3 = .ok (.getfield 28, 3) := by decide +kernel
theorem dX6_numberAtHand_6 : decode cX6_numberAtHand 6 = .ok (.istore_n 2, 1) := by decide +kernel
theorem dX6_numberAtHand_7 : decode cX6_numberAtHand 7 = .ok (.iload_n 2, 1) := by decide +kernel
theorem dX6_numberAtHand_8 : decode cX6_numberAtHand 8 = .ok (.aload_n 0, 1) := by decide +kernel
theorem dX6_numberAtHand_9 : decode cX6_numberAtHand 9 = .ok (.getfield 31, 3) := by decide +kernel
theorem dX6_numberAtHand_12 : decode cX6_numberAtHand 12 = .ok (.if_icmp .ge 23, 3) := by decide +kernel
theorem dX6_numberAtHand_15 : decode cX6_numberAtHand 15 = .ok (.bipush 10, 2) := by decide +kernel
theorem dX6_numberAtHand_17 : decode cX6_numberAtHand 17 = .ok (.iload_n 1, 1) := by decide +kernel
theorem dX6_numberAtHand_18 : decode cX6_numberAtHand 18 = .ok (.imul, 1) := by decide +kernel
theorem dX6_numberAtHand_19 : decode cX6_numberAtHand 19 = .ok (.aload_n 0, 1) := by decide +kernel
theorem dX6_numberAtHand_20 : decode cX6_numberAtHand 20 = .ok (.iload_n 2, 1) := by decide +kernel
theorem dX6_numberAtHand_21 : decode cX6_numberAtHand 21 = .ok (.invokevirtual 65, 3) := by decide +kernel
theorem dX6_numberAtHand_24 : decode cX6_numberAtHand 24 = .ok (.iadd, 1) := by decide +kernel
theorem dX6_numberAtHand_25 : decode cX6_numberAtHand 25 = .ok (.bipush 48, 2) := by decide +kernel
theorem dX6_numberAtHand_27 : decode cX6_numberAtHand 27 = .ok (.isub, 1) := by decide +kernel
theorem dX6_numberAtHand_28 : decode cX6_numberAtHand 28 = .ok (.istore_n 1, 1) := by decide +kernel
theorem dX6_numberAtHand_29 : decode cX6_numberAtHand 29 = .ok (.iinc 2 1, 3) := by decide +kernel
theorem dX6_numberAtHand_32 : decode cX6_numberAtHand 32 = .ok (.goto (-25), 3) := by decide +kernel
theorem dX6_numberAtHand_35 : decode cX6_numberAtHand 35 = .ok (.iload_n 1, 1) := by decide +kernel
theorem dX6_numberAtHand_36 : decode cX6_numberAtHand 36 = .ok (.ireturn, 1) := by decide +kernel
set_option maxRecDepth 20000 in
theorem ggX6_wordAtHand_X6_wordOf : GoodIn wsX6_wordAtHand wsX6_wordOf := goodIn_r _ [4] (by decide +kernel) (by decide +kernel)
set_option maxRecDepth 20000 in
theorem gX6_wordAtHand_X6_wordOf : GoodIn wsX6_wordAtHand (va_wsS RX6 75 yX6_wordOf wsX6_wordOf) := goodIn_app (goodIn_of _ (by decide +kernel)) ggX6_wordAtHand_X6_wordOf
set_option maxRecDepth 20000 in
theorem ggX6_wordAtHand_X6_isAtHand : GoodIn wsX6_wordAtHand wsX6_isAtHand := goodIn_r _ [8, 9, 10, 11, 12, 13, 14, 15, 16, 17, 18, 19, 20, 21, 22, 23, 24, 25, 26, 27, 28, 29, 30, 31, 32, 33, 34, 35, 36, 37, 38, 39, 40, 41, 42, 43, 44, 45, 46, 47, 48, 49, 50, 51, 52, 53, 54, 55, 56, 57, 58, 59, 60, 61, 62, 3, 63, 64, 65, 66, 67, 68, 69] (by decide +kernel) (by decide +kernel)
set_option maxRecDepth 20000 in
theorem gX6_wordAtHand_X6_isAtHand : GoodIn wsX6_wordAtHand (wsV RX6 79 RX6 yX6_isAtHand wsX6_isAtHand) := goodIn_app (goodIn_of _ (by decide +kernel)) ggX6_wordAtHand_X6_isAtHand
theorem dX6_wordAtHand_0 : decode cX6_wordAtHand 0 = .ok (.iconst 0, 1) := by decide +kernel
theorem dX6_wordAtHand_1 : decode cX6_wordAtHand 1 = .ok (.istore_n 1, 1) := by decide +kernel
theorem dX6_wordAtHand_2 : decode cX6_wordAtHand 2 = .ok (.iload_n 1, 1) := by decide +kernel
theorem dX6_wordAtHand_3 : decode cX6_wordAtHand 3 = .ok (.bipush 6, 2) := by decide +kernel
theorem dX6_wordAtHand_5 : decode cX6_wordAtHand 5 = .ok (.if_icmp .ge 22, 3) := by decide +kernel
theorem dX6_wordAtHand_8 : decode cX6_wordAtHand 8 = .ok (.aload_n 0, 1) := by decide +kernel
theorem dX6_wordAtHand_9 : decode cX6_wordAtHand 9 = .ok (.iload_n 1, 1) := by decide +kernel
theorem dX6_wordAtHand_10 : decode cX6_wordAtHand 10 = .ok (.invokestatic 75, 3) := by decide +kernel
theorem dX6_wordAtHand_13 : decode cX6_wordAtHand 13 = .ok (.invokevirtual 79, 3) := by decide +kernel
theorem dX6_wordAtHand_16 : decode cX6_wordAtHand 16 = .ok (.ifCond .eq 5, 3) := by decide +kernel
theorem dX6_wordAtHand_19 : decode cX6_wordAtHand 19 = .ok (.iload_n 1, 1) := by decide +kernel
theorem dX6_wordAtHand_20 : decode cX6_wordAtHand 20 = .ok (.ireturn, 1) := by decide +kernel
theorem dX6_wordAtHand_21 : decode cX6_wordAtHand 21 = .ok (.iinc 1 1, 3) := by decide +kernel
theorem dX6_wordAtHand_24 : decode cX6_wordAtHand 24 = .ok (.goto (-22), 3) := by decide +kernel
theorem dX6_wordAtHand_27 : decode cX6_wordAtHand 27 = .ok (.iconst (-1), 1) := by decide +kernel
theorem dX6_wordAtHand_28 : decode cX6_wordAtHand 28 = .ok (.ireturn, 1) := by decide +kernel
set_option maxRecDepth 20000 in
theorem ggX6_isAtHand_J0_length_8abf5 : GoodIn wsX6_isAtHand wsJ0_length_8abf5 := goodIn_r _ [7, 8, 9, 10, 11, 6, 12, 13, 14] (by decide +kernel) (by decide +kernel)
set_option maxRecDepth 20000 in
theorem gX6_isAtHand_J0_length_8abf5 : GoodIn wsX6_isAtHand (wsV RX6 83 RJ0 yJ0_length_8abf5 wsJ0_length_8abf5) := goodIn_app (goodIn_of _ (by decide +kernel)) ggX6_isAtHand_J0_length_8abf5
set_option maxRecDepth 20000 in
theorem ggX6_isAtHand_J0_charAt_5068e : GoodIn wsX6_isAtHand wsJ0_charAt_5068e := goodIn_r _ [18, 8, 19, 20, 21, 6, 22, 13, 14, 23, 24, 25, 26, 27, 28, 29, 30, 31, 32, 33, 34, 35, 36, 37, 38, 39, 40, 41, 42, 43, 44, 45, 46, 47, 48, 49, 50, 51] (by decide +kernel) (by decide +kernel)
set_option maxRecDepth 20000 in
theorem gX6_isAtHand_J0_charAt_5068e : GoodIn wsX6_isAtHand (wsV RX6 87 RJ0 yJ0_charAt_5068e wsJ0_charAt_5068e) := goodIn_app (goodIn_of _ (by decide +kernel)) ggX6_isAtHand_J0_charAt_5068e
set_option maxRecDepth 20000 in
theorem ggX6_isAtHand_X6_byteAt : GoodIn wsX6_isAtHand wsX6_byteAt := goodIn_r _ [56, 57, 58, 59, 60, 61, 62] (by decide +kernel) (by decide +kernel)
set_option maxRecDepth 20000 in
theorem gX6_isAtHand_X6_byteAt : GoodIn wsX6_isAtHand (wsV RX6 65 RX6 yX6_byteAt wsX6_byteAt) := goodIn_app (goodIn_of _ (by decide +kernel)) ggX6_isAtHand_X6_byteAt
theorem dX6_isAtHand_0 : decode cX6_isAtHand 0 = .ok (.aload_n 1, 1) := by decide +kernel
theorem dX6_isAtHand_1 : decode cX6_isAtHand 1 = .ok (.invokevirtual 83, 3) := by decide +kernel
theorem dX6_isAtHand_4 : decode cX6_isAtHand 4 = .ok (.aload_n 0, 1) := by decide +kernel
theorem dX6_isAtHand_5 : decode cX6_isAtHand 5 = .ok (.getfield 31, 3) := by decide +kernel
theorem dX6_isAtHand_8 : decode cX6_isAtHand 8 = .ok (.aload_n 0, 1) := by decide +kernel
theorem dX6_isAtHand_9 : decode cX6_isAtHand 9 = .ok (.getfield 28, 3) := by decide +kernel
theorem dX6_isAtHand_12 : decode cX6_isAtHand 12 = .ok (.isub, 1) := by decide +kernel
theorem dX6_isAtHand_13 : decode cX6_isAtHand 13 = .ok (.if_icmp .eq 5, 3) := by decide +kernel
theorem dX6_isAtHand_16 : decode cX6_isAtHand 16 = .ok (.iconst 0, 1) := by decide +kernel
theorem dX6_isAtHand_17 : decode cX6_isAtHand 17 = .ok (.ireturn, 1) := by decide +kernel
theorem dX6_isAtHand_18 : decode cX6_isAtHand 18 = .ok (.iconst 0, 1) := by decide +kernel
theorem dX6_isAtHand_19 : decode cX6_isAtHand 19 = .ok (.istore_n 2, 1) := by decide +kernel
theorem dX6_isAtHand_20 : decode cX6_isAtHand 20 = .ok (.iload_n 2, 1) := by decide +kernel
theorem dX6_isAtHand_21 : decode cX6_isAtHand 21 = .ok (.aload_n 1, 1) := by decide +kernel
theorem dX6_isAtHand_22 : decode cX6_isAtHand 22 = .ok (.invokevirtual 83, 3) := by decide +kernel
theorem dX6_isAtHand_25 : decode cX6_isAtHand 25 = .ok (.if_icmp .ge 29, 3) := by decide +kernel
theorem dX6_isAtHand_28 : decode cX6_isAtHand 28 = .ok (.aload_n 1, 1) := by decide +kernel
theorem dX6_isAtHand_29 : decode cX6_isAtHand 29 = .ok (.iload_n 2, 1) := by decide +kernel
theorem dX6_isAtHand_30 : decode cX6_isAtHand 30 = .ok (.invokevirtual 87, 3) := by decide +kernel
theorem dX6_isAtHand_33 : decode cX6_isAtHand 33 = .ok (.aload_n 0, 1) := by decide +kernel
theorem dX6_isAtHand_34 : decode cX6_isAtHand 34 = .ok (.aload_n 0, 1) := by decide +kernel
theorem dX6_isAtHand_35 : decode cX6_isAtHand 35 = .ok (.getfield 28, 3) := by decide +kernel
theorem dX6_isAtHand_38 : decode cX6_isAtHand 38 = .ok (.iload_n 2, 1) := by decide +kernel
theorem dX6_isAtHand_39 : decode cX6_isAtHand 39 = .ok (.iadd, 1) := by decide +kernel
theorem dX6_isAtHand_40 : decode cX6_isAtHand 40 = .ok (.invokevirtual 65, 3) := by decide +kernel
theorem dX6_isAtHand_43 : decode cX6_isAtHand 43 = .ok (.if_icmp .eq 5, 3) := by decide +kernel
theorem dX6_isAtHand_46 : decode cX6_isAtHand 46 = .ok (.iconst 0, 1) := by decide +kernel
theorem dX6_isAtHand_47 : decode cX6_isAtHand 47 = .ok (.ireturn, 1) := by decide +kernel
theorem dX6_isAtHand_48 : decode cX6_isAtHand 48 = .ok (.iinc 2 1, 3) := by decide +kernel
theorem dX6_isAtHand_51 : decode cX6_isAtHand 51 = .ok (.goto (-31), 3) := by decide +kernel
theorem dX6_isAtHand_54 : decode cX6_isAtHand 54 = .ok (.iconst 1, 1) := by decide +kernel
theorem dX6_isAtHand_55 : decode cX6_isAtHand 55 = .ok (.ireturn, 1) := by decide +kernel
theorem dX6_wordOf_0 : decode cX6_wordOf 0 = .ok (.iload_n 0, 1) := by decide +kernel
theorem dX6_wordOf_1 : decode cX6_wordOf 1 = .ok (.tableswitch 50 0 4 #[35, 38, 41, 44, 47], 35) := by decide +kernel
theorem dX6_wordOf_36 : decode cX6_wordOf 36 = .ok (.ldc 91, 2) := by decide +kernel
theorem dX6_wordOf_38 : decode cX6_wordOf 38 = .ok (.areturn, 1) := by decide +kernel
theorem dX6_wordOf_39 : decode cX6_wordOf 39 = .ok (.ldc 93, 2) := by decide +kernel
theorem dX6_wordOf_41 : decode cX6_wordOf 41 = .ok (.areturn, 1) := by decide +kernel
theorem dX6_wordOf_42 : decode cX6_wordOf 42 = .ok (.ldc 95, 2) := by decide +kernel
theorem dX6_wordOf_44 : decode cX6_wordOf 44 = .ok (.areturn, 1) := by decide +kernel
theorem dX6_wordOf_45 : decode cX6_wordOf 45 = .ok (.ldc 97, 2) := by decide +kernel
theorem dX6_wordOf_47 : decode cX6_wordOf 47 = .ok (.areturn, 1) := by decide +kernel
theorem dX6_wordOf_48 : decode cX6_wordOf 48 = .ok (.ldc 99, 2) := by decide +kernel
theorem dX6_wordOf_50 : decode cX6_wordOf 50 = .ok (.areturn, 1) := by decide +kernel
theorem dX6_wordOf_51 : decode cX6_wordOf 51 = .ok (.ldc 101, 2) := by decide +kernel
theorem dX6_wordOf_53 : decode cX6_wordOf 53 = .ok (.areturn, 1) := by decide +kernel
theorem dX6_numbersIn_0 : decode cX6_numbersIn 0 = .ok (.iload_n 0, 1) := by decide +kernel
theorem dX6_numbersIn_1 : decode cX6_numbersIn 1 = .ok (.tableswitch 37 1 4 #[31, 35, 33, 35], 31) := by decide +kernel
theorem dX6_numbersIn_32 : decode cX6_numbersIn 32 = .ok (.iconst 4, 1) := by decide +kernel
theorem dX6_numbersIn_33 : decode cX6_numbersIn 33 = .ok (.ireturn, 1) := by decide +kernel
theorem dX6_numbersIn_34 : decode cX6_numbersIn 34 = .ok (.iconst 3, 1) := by decide +kernel
theorem dX6_numbersIn_35 : decode cX6_numbersIn 35 = .ok (.ireturn, 1) := by decide +kernel
theorem dX6_numbersIn_36 : decode cX6_numbersIn 36 = .ok (.iconst 2, 1) := by decide +kernel
theorem dX6_numbersIn_37 : decode cX6_numbersIn 37 = .ok (.ireturn, 1) := by decide +kernel
theorem dX6_numbersIn_38 : decode cX6_numbersIn 38 = .ok (.iconst 1, 1) := by decide +kernel
theorem dX6_numbersIn_39 : decode cX6_numbersIn 39 = .ok (.ireturn, 1) := by decide +kernel
theorem dX7_init_0 : decode cX7_init 0 = .ok (.aload_n 0, 1) := by decide +kernel
theorem dX7_init_1 : decode cX7_init 1 = .ok (.invokespecial 3, 3) := by decide +kernel
theorem dX7_init_4 : decode cX7_init 4 = .ok (.aload_n 0, 1) := by decide +kernel
theorem dX7_init_5 : decode cX7_init 5 = .ok (.iconst 0, 1) := by decide +kernel
theorem dX7_init_6 : decode cX7_init 6 = .ok (.putfield 9, 3) := by decide +kernel
theorem dX7_init_9 : decode cX7_init 9 = .ok (.aload_n 0, 1) := by decide +kernel
theorem dX7_init_10 : decode cX7_init 10 = .ok (.iconst 0, 1) := by decide +kernel
theorem dX7_init_11 : decode cX7_init 11 = .ok (.iload_n 1, 1) := by decide +kernel
theorem dX7_init_12 : decode cX7_init 12 = .ok (.invokestatic 15, 3) := by decide +kernel
theorem dX7_init_15 : decode cX7_init 15 = .ok (.putfield 21, 3) := by decide +kernel
theorem dX7_init_18 : decode cX7_init 18 = .ok (.aload_n 0, 1) := by decide +kernel
theorem dX7_init_19 : decode cX7_init 19 = .ok (.iconst 0, 1) := by decide +kernel
theorem dX7_init_20 : decode cX7_init 20 = .ok (.iload_n 2, 1) := by decide +kernel
theorem dX7_init_21 : decode cX7_init 21 = .ok (.invokestatic 15, 3) := by decide +kernel
theorem dX7_init_24 : decode cX7_init 24 = .ok (.putfield 24, 3) := by decide +kernel
theorem dX7_init_27 : decode cX7_init 27 = .ok (.aload_n 0, 1) := by decide +kernel
theorem dX7_init_28 : decode cX7_init 28 = .ok (.aload_n 0, 1) := by decide +kernel
theorem dX7_init_29 : decode cX7_init 29 = .ok (.getfield 21, 3) := by decide +kernel
theorem dX7_init_32 : decode cX7_init 32 = .ok (.aload_n 0, 1) := by decide +kernel
theorem dX7_init_33 : decode cX7_init 33 = .ok (.getfield 24, 3) := by decide +kernel
theorem dX7_init_36 : decode cX7_init 36 = .ok (.imul, 1) := by decide +kernel
theorem dX7_init_37 : decode cX7_init 37 = .ok (.newarray .int, 2) := by decide +kernel
theorem dX7_init_39 : decode cX7_init 39 = .ok (.putfield 27, 3) := by decide +kernel
theorem dX7_init_42 : decode cX7_init 42 = .ok (.return_, 1) := by decide +kernel
theorem dX7_size_0 : decode cX7_size 0 = .ok (.aload_n 0, 1) := by decide +kernel
theorem dX7_size_1 : decode cX7_size 1 = .ok (.getfield 9, 3) := by decide +kernel
theorem dX7_size_4 : decode cX7_size 4 = .ok (.ireturn, 1) := by decide +kernel
theorem dX7_has_0 : decode cX7_has 0 = .ok (.iload_n 1, 1) := by decide +kernel
theorem dX7_has_1 : decode cX7_has 1 = .ok (.ifCond .lt 15, 3) := by decide +kernel
theorem dX7_has_4 : decode cX7_has 4 = .ok (.iload_n 1, 1) := by decide +kernel
theorem dX7_has_5 : decode cX7_has 5 = .ok (.aload_n 0, 1) := by decide +kernel
theorem dX7_has_6 : decode cX7_has 6 = .ok (.getfield 9, 3) := by decide +kernel
theorem dX7_has_9 : decode cX7_has 9 = .ok (.if_icmp .ge 7, 3) := by decide +kernel
theorem dX7_has_12 : decode cX7_has 12 = .ok (.iconst 1, 1) := by decide +kernel
theorem dX7_has_13 : decode cX7_has 13 = .ok (.goto 4, 3) := by decide +kernel
theorem dX7_has_16 : decode cX7_has 16 = .ok (.iconst 0, 1) := by decide +kernel
theorem dX7_has_17 : decode cX7_has 17 = .ok (.ireturn, 1) := by decide +kernel
theorem dX7_isFull_0 : decode cX7_isFull 0 = .ok (.aload_n 0, 1) := by decide +kernel
theorem dX7_isFull_1 : decode cX7_isFull 1 = .ok (.getfield 9, 3) := by decide +kernel
theorem dX7_isFull_4 : decode cX7_isFull 4 = .ok (.aload_n 0, 1) := by decide +kernel
theorem dX7_isFull_5 : decode cX7_isFull 5 = .ok (.getfield 21, 3) := by decide +kernel
theorem dX7_isFull_8 : decode cX7_isFull 8 = .ok (.if_icmp .lt 7, 3) := by decide +kernel
theorem dX7_isFull_11 : decode cX7_isFull 11 = .ok (.iconst 1, 1) := by decide +kernel
theorem dX7_isFull_12 : decode cX7_isFull 12 = .ok (.goto 4, 3) := by decide +kernel
theorem dX7_isFull_15 : decode cX7_isFull 15 = .ok (.iconst 0, 1) := by decide +kernel
theorem dX7_isFull_16 : decode cX7_isFull 16 = .ok (.ireturn, 1) := by decide +kernel
theorem dX7_at_0 : decode cX7_at 0 = .ok (.iload_n 1, 1) := by decide +kernel
theorem dX7_at_1 : decode cX7_at 1 = .ok (.aload_n 0, 1) := by decide +kernel
theorem dX7_at_2 : decode cX7_at 2 = .ok (.getfield 24, 3) := by decide +kernel
theorem dX7_at_5 : decode cX7_at 5 = .ok (.imul, 1) := by decide +kernel
theorem dX7_at_6 : decode cX7_at 6 = .ok (.iload_n 2, 1) := by decide +kernel
theorem dX7_at_7 : decode cX7_at 7 = .ok (.iadd, 1) := by decide +kernel
theorem dX7_at_8 : decode cX7_at 8 = .ok (.istore_n 3, 1) := by decide +kernel
theorem dX7_at_9 : decode cX7_at 9 = .ok (.iload_n 3, 1) := by decide +kernel
theorem dX7_at_10 : decode cX7_at 10 = .ok (.ifCond .lt 21, 3) := by decide +kernel
theorem dX7_at_13 : decode cX7_at 13 = .ok (.iload_n 3, 1) := by decide +kernel
theorem dX7_at_14 : decode cX7_at 14 = .ok (.aload_n 0, 1) := by decide +kernel
theorem dX7_at_15 : decode cX7_at 15 = .ok (.getfield 27, 3) := by decide +kernel
theorem dX7_at_18 : decode cX7_at 18 = .ok (.arraylength, 1) := by decide +kernel
theorem dX7_at_19 : decode cX7_at 19 = .ok (.if_icmp .ge 12, 3) := by decide +kernel
theorem dX7_at_22 : decode cX7_at 22 = .ok (.aload_n 0, 1) := by decide +kernel
theorem dX7_at_23 : decode cX7_at 23 = .ok (.getfield 27, 3) := by decide +kernel
theorem dX7_at_26 : decode cX7_at 26 = .ok (.iload_n 3, 1) := by decide +kernel
theorem dX7_at_27 : decode cX7_at 27 = .ok (.iaload, 1) := by decide +kernel
theorem dX7_at_28 : decode cX7_at 28 = .ok (.goto 4, 3) := by decide +kernel
theorem dX7_at_31 : decode cX7_at 31 = .ok (.iconst 0, 1) := by decide +kernel
theorem dX7_at_32 : decode cX7_at 32 = .ok (.ireturn, 1) := by decide +kernel
set_option maxRecDepth 20000 in
theorem ggX7_lastAt_X7_at : GoodIn wsX7_lastAt wsX7_at := goodIn_r _ [6, 7, 8, 9, 10, 11, 12] (by decide +kernel) (by decide +kernel)
set_option maxRecDepth 20000 in
theorem gX7_lastAt_X7_at : GoodIn wsX7_lastAt (wsV RX7 31 RX7 yX7_at wsX7_at) := goodIn_app (goodIn_of _ (by decide +kernel)) ggX7_lastAt_X7_at
theorem dX7_lastAt_0 : decode cX7_lastAt 0 = .ok (.aload_n 0, 1) := by decide +kernel
theorem dX7_lastAt_1 : decode cX7_lastAt 1 = .ok (.getfield 9, 3) := by decide +kernel
theorem dX7_lastAt_4 : decode cX7_lastAt 4 = .ok (.ifCond .ne 7, 3) := by decide +kernel
theorem dX7_lastAt_7 : decode cX7_lastAt 7 = .ok (.iconst (-1), 1) := by decide +kernel
theorem dX7_lastAt_8 : decode cX7_lastAt 8 = .ok (.goto 14, 3) := by decide +kernel
theorem dX7_lastAt_11 : decode cX7_lastAt 11 = .ok (.aload_n 0, 1) := by decide +kernel
theorem dX7_lastAt_12 : decode cX7_lastAt 12 = .ok (.aload_n 0, 1) := by decide +kernel
theorem dX7_lastAt_13 : decode cX7_lastAt 13 = .ok (.getfield 9, 3) := by decide +kernel
theorem dX7_lastAt_16 : decode cX7_lastAt 16 = .ok (.iconst 1, 1) := by decide +kernel
theorem dX7_lastAt_17 : decode cX7_lastAt 17 = .ok (.isub, 1) := by decide +kernel
theorem dX7_lastAt_18 : decode cX7_lastAt 18 = .ok (.iload_n 1, 1) := by decide +kernel
theorem dX7_lastAt_19 : decode cX7_lastAt 19 = .ok (.invokevirtual 31, 3) := by decide +kernel
theorem dX7_lastAt_22 : decode cX7_lastAt 22 = .ok (.ireturn, 1) := by decide +kernel
theorem dX7_put_0 : decode cX7_put 0 = .ok (.iload_n 1, 1) := by decide +kernel
theorem dX7_put_1 : decode cX7_put 1 = .ok (.aload_n 0, 1) := by decide +kernel
theorem dX7_put_2 : decode cX7_put 2 = .ok (.getfield 24, 3) := by decide +kernel
theorem dX7_put_5 : decode cX7_put 5 = .ok (.imul, 1) := by decide +kernel
theorem dX7_put_6 : decode cX7_put 6 = .ok (.iload_n 2, 1) := by decide +kernel
theorem dX7_put_7 : decode cX7_put 7 = .ok (.iadd, 1) := by decide +kernel
theorem dX7_put_8 : decode cX7_put 8 = .ok (.istore 4, 2) := by decide +kernel
theorem dX7_put_10 : decode cX7_put 10 = .ok (.iload 4, 2) := by decide +kernel
theorem dX7_put_12 : decode cX7_put 12 = .ok (.ifCond .lt 21, 3) := by decide +kernel
theorem dX7_put_15 : decode cX7_put 15 = .ok (.iload 4, 2) := by decide +kernel
theorem dX7_put_17 : decode cX7_put 17 = .ok (.aload_n 0, 1) := by decide +kernel
theorem dX7_put_18 : decode cX7_put 18 = .ok (.getfield 27, 3) := by decide +kernel
theorem dX7_put_21 : decode cX7_put 21 = .ok (.arraylength, 1) := by decide +kernel
theorem dX7_put_22 : decode cX7_put 22 = .ok (.if_icmp .ge 11, 3) := by decide +kernel
theorem dX7_put_25 : decode cX7_put 25 = .ok (.aload_n 0, 1) := by decide +kernel
theorem dX7_put_26 : decode cX7_put 26 = .ok (.getfield 27, 3) := by decide +kernel
theorem dX7_put_29 : decode cX7_put 29 = .ok (.iload 4, 2) := by decide +kernel
theorem dX7_put_31 : decode cX7_put 31 = .ok (.iload_n 3, 1) := by decide +kernel
theorem dX7_put_32 : decode cX7_put 32 = .ok (.iastore, 1) := by decide +kernel
theorem dX7_put_33 : decode cX7_put 33 = .ok (.return_, 1) := by decide +kernel
set_option maxRecDepth 20000 in
theorem ggX7_open_X7_isFull : GoodIn wsX7_open wsX7_isFull := goodIn_r _ [6, 1, 7, 8, 9, 10, 11] (by decide +kernel) (by decide +kernel)
set_option maxRecDepth 20000 in
theorem gX7_open_X7_isFull : GoodIn wsX7_open (wsV RX7 34 RX7 yX7_isFull wsX7_isFull) := goodIn_app (goodIn_of _ (by decide +kernel)) ggX7_open_X7_isFull
theorem dX7_open_0 : decode cX7_open 0 = .ok (.aload_n 0, 1) := by decide +kernel
theorem dX7_open_1 : decode cX7_open 1 = .ok (.invokevirtual 34, 3) := by decide +kernel
theorem dX7_open_4 : decode cX7_open 4 = .ok (.ifCond .eq 6, 3) := by decide +kernel
theorem dX7_open_7 : decode cX7_open 7 = .ok (.bipush (-4), 2) := by decide +kernel
theorem dX7_open_9 : decode cX7_open 9 = .ok (.ireturn, 1) := by decide +kernel
theorem dX7_open_10 : decode cX7_open 10 = .ok (.aload_n 0, 1) := by decide +kernel
theorem dX7_open_11 : decode cX7_open 11 = .ok (.dup, 1) := by decide +kernel
theorem dX7_open_12 : decode cX7_open 12 = .ok (.getfield 9, 3) := by decide +kernel
theorem dX7_open_15 : decode cX7_open 15 = .ok (.iconst 1, 1) := by decide +kernel
theorem dX7_open_16 : decode cX7_open 16 = .ok (.iadd, 1) := by decide +kernel
theorem dX7_open_17 : decode cX7_open 17 = .ok (.putfield 9, 3) := by decide +kernel
theorem dX7_open_20 : decode cX7_open 20 = .ok (.aload_n 0, 1) := by decide +kernel
theorem dX7_open_21 : decode cX7_open 21 = .ok (.getfield 9, 3) := by decide +kernel
theorem dX7_open_24 : decode cX7_open 24 = .ok (.iconst 1, 1) := by decide +kernel
theorem dX7_open_25 : decode cX7_open 25 = .ok (.isub, 1) := by decide +kernel
theorem dX7_open_26 : decode cX7_open 26 = .ok (.ireturn, 1) := by decide +kernel
theorem dX7_dropLast_0 : decode cX7_dropLast 0 = .ok (.aload_n 0, 1) := by decide +kernel
theorem dX7_dropLast_1 : decode cX7_dropLast 1 = .ok (.getfield 9, 3) := by decide +kernel
theorem dX7_dropLast_4 : decode cX7_dropLast 4 = .ok (.ifCond .le 13, 3) := by decide +kernel
theorem dX7_dropLast_7 : decode cX7_dropLast 7 = .ok (.aload_n 0, 1) := by decide +kernel
theorem dX7_dropLast_8 : decode cX7_dropLast 8 = .ok (.dup, 1) := by decide +kernel
theorem dX7_dropLast_9 : decode cX7_dropLast 9 = .ok (.getfield 9, 3) := by decide +kernel
theorem dX7_dropLast_12 : decode cX7_dropLast 12 = .ok (.iconst 1, 1) := by decide +kernel
theorem dX7_dropLast_13 : decode cX7_dropLast 13 = .ok (.isub, 1) := by decide +kernel
theorem dX7_dropLast_14 : decode cX7_dropLast 14 = .ok (.putfield 9, 3) := by decide +kernel
theorem dX7_dropLast_17 : decode cX7_dropLast 17 = .ok (.return_, 1) := by decide +kernel
theorem dX7_dropAll_0 : decode cX7_dropAll 0 = .ok (.aload_n 0, 1) := by decide +kernel
theorem dX7_dropAll_1 : decode cX7_dropAll 1 = .ok (.iconst 0, 1) := by decide +kernel
theorem dX7_dropAll_2 : decode cX7_dropAll 2 = .ok (.putfield 9, 3) := by decide +kernel
theorem dX7_dropAll_5 : decode cX7_dropAll 5 = .ok (.return_, 1) := by decide +kernel
theorem dX7_become_0 : decode cX7_become 0 = .ok (.aload_n 0, 1) := by decide +kernel
theorem dX7_become_1 : decode cX7_become 1 = .ok (.aload_n 1, 1) := by decide +kernel
theorem dX7_become_2 : decode cX7_become 2 = .ok (.getfield 9, 3) := by decide +kernel
theorem dX7_become_5 : decode cX7_become 5 = .ok (.aload_n 0, 1) := by decide +kernel
theorem dX7_become_6 : decode cX7_become 6 = .ok (.getfield 21, 3) := by decide +kernel
theorem dX7_become_9 : decode cX7_become 9 = .ok (.invokestatic 38, 3) := by decide +kernel
theorem dX7_become_12 : decode cX7_become 12 = .ok (.putfield 9, 3) := by decide +kernel
theorem dX7_become_15 : decode cX7_become 15 = .ok (.iconst 0, 1) := by decide +kernel
theorem dX7_become_16 : decode cX7_become 16 = .ok (.istore_n 2, 1) := by decide +kernel
theorem dX7_become_17 : decode cX7_become 17 = .ok (.iload_n 2, 1) := by decide +kernel
theorem dX7_become_18 : decode cX7_become 18 = .ok (.aload_n 0, 1) := by decide +kernel
theorem dX7_become_19 : decode cX7_become 19 = .ok (.getfield 27, 3) := by decide +kernel
theorem dX7_become_22 : decode cX7_become 22 = .ok (.arraylength, 1) := by decide +kernel
theorem dX7_become_23 : decode cX7_become 23 = .ok (.if_icmp .ge 30, 3) := by decide +kernel
theorem dX7_become_26 : decode cX7_become 26 = .ok (.iload_n 2, 1) := by decide +kernel
theorem dX7_become_27 : decode cX7_become 27 = .ok (.aload_n 1, 1) := by decide +kernel
theorem dX7_become_28 : decode cX7_become 28 = .ok (.getfield 27, 3) := by decide +kernel
theorem dX7_become_31 : decode cX7_become 31 = .ok (.arraylength, 1) := by decide +kernel
theorem dX7_become_32 : decode cX7_become 32 = .ok (.if_icmp .ge 21, 3) := by decide +kernel
theorem dX7_become_35 : decode cX7_become 35 = .ok (.aload_n 0, 1) := by decide +kernel
theorem dX7_become_36 : decode cX7_become 36 = .ok (.getfield 27, 3) := by decide +kernel
theorem dX7_become_39 : decode cX7_become 39 = .ok (.iload_n 2, 1) := by decide +kernel
theorem dX7_become_40 : decode cX7_become 40 = .ok (.aload_n 1, 1) := by decide +kernel
theorem dX7_become_41 : decode cX7_become 41 = .ok (.getfield 27, 3) := by decide +kernel
theorem dX7_become_44 : decode cX7_become 44 = .ok (.iload_n 2, 1) := by decide +kernel
theorem dX7_become_45 : decode cX7_become 45 = .ok (.iaload, 1) := by decide +kernel
theorem dX7_become_46 : decode cX7_become 46 = .ok (.iastore, 1) := by decide +kernel
theorem dX7_become_47 : decode cX7_become 47 = .ok (.iinc 2 1, 3) := by decide +kernel
theorem dX7_become_50 : decode cX7_become 50 = .ok (.goto (-33), 3) := by decide +kernel
theorem dX7_become_53 : decode cX7_become 53 = .ok (.return_, 1) := by decide +kernel
theorem dX7_mixedInto_0 : decode cX7_mixedInto 0 = .ok (.lload_n 1, 1) := by decide +kernel
theorem dX7_mixedInto_1 : decode cX7_mixedInto 1 = .ok (.lstore_n 3, 1) := by decide +kernel
theorem dX7_mixedInto_2 : decode cX7_mixedInto 2 = .ok (.aload_n 0, 1) := by decide +kernel
theorem dX7_mixedInto_3 : decode cX7_mixedInto 3 = .ok (.getfield 9, 3) := by decide +kernel
theorem dX7_mixedInto_6 : decode cX7_mixedInto 6 = .ok (.aload_n 0, 1) := by decide +kernel
theorem dX7_mixedInto_7 : decode cX7_mixedInto 7 = .ok (.getfield 24, 3) := by decide +kernel
theorem dX7_mixedInto_10 : decode cX7_mixedInto 10 = .ok (.imul, 1) := by decide +kernel
theorem dX7_mixedInto_11 : decode cX7_mixedInto 11 = .ok (.aload_n 0, 1) := by decide +kernel
theorem dX7_mixedInto_12 : decode cX7_mixedInto 12 = .ok (.getfield 27, 3) := by decide +kernel
theorem dX7_mixedInto_15 : decode cX7_mixedInto 15 = .ok (.arraylength, 1) := by decide +kernel
theorem dX7_mixedInto_16 : decode cX7_mixedInto 16 = .ok (.invokestatic 38, 3) := by decide +kernel
theorem dX7_mixedInto_19 : decode cX7_mixedInto 19 = .ok (.istore 5, 2) := by decide +kernel
theorem dX7_mixedInto_21 : decode cX7_mixedInto 21 = .ok (.iconst 0, 1) := by decide +kernel
theorem dX7_mixedInto_22 : decode cX7_mixedInto 22 = .ok (.istore 6, 2) := by decide +kernel
theorem dX7_mixedInto_24 : decode cX7_mixedInto 24 = .ok (.iload 6, 2) := by decide +kernel
theorem dX7_mixedInto_26 : decode cX7_mixedInto 26 = .ok (.iload 5, 2) := by decide +kernel
theorem dX7_mixedInto_28 : decode cX7_mixedInto 28 = .ok (.if_icmp .ge 24, 3) := by decide +kernel
theorem dX7_mixedInto_31 : decode cX7_mixedInto 31 = .ok (.ldc2_w 41, 3) := by decide +kernel
theorem dX7_mixedInto_34 : decode cX7_mixedInto 34 = .ok (.lload_n 3, 1) := by decide +kernel
theorem dX7_mixedInto_35 : decode cX7_mixedInto 35 = .ok (.lmul, 1) := by decide +kernel
theorem dX7_mixedInto_36 : decode cX7_mixedInto 36 = .ok (.aload_n 0, 1) := by decide +kernel
theorem dX7_mixedInto_37 : decode cX7_mixedInto 37 = .ok (.getfield 27, 3) := by decide +kernel
theorem dX7_mixedInto_40 : decode cX7_mixedInto 40 = .ok (.iload 6, 2) := by decide +kernel
theorem dX7_mixedInto_42 : decode cX7_mixedInto 42 = .ok (.iaload, 1) := by decide +kernel
theorem dX7_mixedInto_43 : decode cX7_mixedInto 43 = .ok (.i2l, 1) := by decide +kernel
theorem dX7_mixedInto_44 : decode cX7_mixedInto 44 = .ok (.ladd, 1) := by decide +kernel
theorem dX7_mixedInto_45 : decode cX7_mixedInto 45 = .ok (.lstore_n 3, 1) := by decide +kernel
theorem dX7_mixedInto_46 : decode cX7_mixedInto 46 = .ok (.iinc 6 1, 3) := by decide +kernel
theorem dX7_mixedInto_49 : decode cX7_mixedInto 49 = .ok (.goto (-25), 3) := by decide +kernel
theorem dX7_mixedInto_52 : decode cX7_mixedInto 52 = .ok (.lload_n 3, 1) := by decide +kernel
theorem dX7_mixedInto_53 : decode cX7_mixedInto 53 = .ok (.lreturn, 1) := by decide +kernel
theorem dX8_init_0 : decode cX8_init 0 = .ok (.aload_n 0, 1) := by decide +kernel
theorem dX8_init_1 : decode cX8_init 1 = .ok (.invokespecial 3, 3) := by decide +kernel
theorem dX8_init_4 : decode cX8_init 4 = .ok (.aload_n 0, 1) := by decide +kernel
theorem dX8_init_5 : decode cX8_init 5 = .ok (.bipush 31, 2) := by decide +kernel
theorem dX8_init_7 : decode cX8_init 7 = .ok (.newarray .long, 2) := by decide +kernel
theorem dX8_init_9 : decode cX8_init 9 = .ok (.putfield 9, 3) := by decide +kernel
theorem dX8_init_12 : decode cX8_init 12 = .ok (.aload_n 0, 1) := by decide +kernel
theorem dX8_init_13 : decode cX8_init 13 = .ok (.bipush 31, 2) := by decide +kernel
theorem dX8_init_15 : decode cX8_init 15 = .ok (.newarray .long, 2) := by decide +kernel
theorem dX8_init_17 : decode cX8_init 17 = .ok (.putfield 15, 3) := by decide +kernel
theorem dX8_init_20 : decode cX8_init 20 = .ok (.return_, 1) := by decide +kernel
set_option maxRecDepth 20000 in
theorem ggX8_startAt_J7_fill_d0a16 : GoodIn wsX8_startAt wsJ7_fill_d0a16 := goodIn_r _ [5] (by decide +kernel) (by decide +kernel)
set_option maxRecDepth 20000 in
theorem gX8_startAt_J7_fill_d0a16 : GoodIn wsX8_startAt (va_wsS RX8 18 yJ7_fill_d0a16 wsJ7_fill_d0a16) := goodIn_app (goodIn_of _ (by decide +kernel)) ggX8_startAt_J7_fill_d0a16
set_option maxRecDepth 20000 in
theorem ggX8_startAt_X8_add : GoodIn wsX8_startAt wsX8_add := goodIn_r _ [9] (by decide +kernel) (by decide +kernel)
set_option maxRecDepth 20000 in
theorem gX8_startAt_X8_add : GoodIn wsX8_startAt (va_wsS RX8 24 yX8_add wsX8_add) := goodIn_app (goodIn_of _ (by decide +kernel)) ggX8_startAt_X8_add
theorem dX8_startAt_0 : decode cX8_startAt 0 = .ok (.aload_n 0, 1) := by decide +kernel
theorem dX8_startAt_1 : decode cX8_startAt 1 = .ok (.getfield 9, 3) := by decide +kernel
theorem dX8_startAt_4 : decode cX8_startAt 4 = .ok (.lconst 0, 1) := by decide +kernel
theorem dX8_startAt_5 : decode cX8_startAt 5 = .ok (.invokestatic 18, 3) := by decide +kernel
theorem dX8_startAt_8 : decode cX8_startAt 8 = .ok (.aload_n 0, 1) := by decide +kernel
theorem dX8_startAt_9 : decode cX8_startAt 9 = .ok (.getfield 9, 3) := by decide +kernel
theorem dX8_startAt_12 : decode cX8_startAt 12 = .ok (.iload_n 1, 1) := by decide +kernel
theorem dX8_startAt_13 : decode cX8_startAt 13 = .ok (.lconst 1, 1) := by decide +kernel
theorem dX8_startAt_14 : decode cX8_startAt 14 = .ok (.invokestatic 24, 3) := by decide +kernel
theorem dX8_startAt_17 : decode cX8_startAt 17 = .ok (.return_, 1) := by decide +kernel
set_option maxRecDepth 20000 in
theorem ggX8_pass_J7_fill_d0a16 : GoodIn wsX8_pass wsJ7_fill_d0a16 := goodIn_r _ [10] (by decide +kernel) (by decide +kernel)
set_option maxRecDepth 20000 in
theorem gX8_pass_J7_fill_d0a16 : GoodIn wsX8_pass (va_wsS RX8 18 yJ7_fill_d0a16 wsJ7_fill_d0a16) := goodIn_app (goodIn_of _ (by decide +kernel)) ggX8_pass_J7_fill_d0a16
set_option maxRecDepth 20000 in
theorem ggX8_pass_X8_add : GoodIn wsX8_pass wsX8_add := goodIn_r _ [14] (by decide +kernel) (by decide +kernel)
set_option maxRecDepth 20000 in
theorem gX8_pass_X8_add : GoodIn wsX8_pass (va_wsS RX8 24 yX8_add wsX8_add) := goodIn_app (goodIn_of _ (by decide +kernel)) ggX8_pass_X8_add
theorem dX8_pass_0 : decode cX8_pass 0 = .ok (.aload_n 0, 1) := by decide +kernel
theorem dX8_pass_1 : decode cX8_pass 1 = .ok (.getfield 15, 3) := by decide +kernel
theorem dX8_pass_4 : decode cX8_pass 4 = .ok (.lconst 0, 1) := by decide +kernel
theorem dX8_pass_5 : decode cX8_pass 5 = .ok (.invokestatic 18, 3) := by decide +kernel
theorem dX8_pass_8 : decode cX8_pass 8 = .ok (.iconst 0, 1) := by decide +kernel
theorem dX8_pass_9 : decode cX8_pass 9 = .ok (.istore 5, 2) := by decide +kernel
theorem dX8_pass_11 : decode cX8_pass 11 = .ok (.iload 5, 2) := by decide +kernel
theorem dX8_pass_13 : decode cX8_pass 13 = .ok (.bipush 30, 2) := by decide +kernel
theorem dX8_pass_15 : decode cX8_pass 15 = .ok (.if_icmp .gt 104, 3) := by decide +kernel
theorem dX8_pass_18 : decode cX8_pass 18 = .ok (.aload_n 0, 1) := by decide +kernel
theorem dX8_pass_19 : decode cX8_pass 19 = .ok (.getfield 9, 3) := by decide +kernel
theorem dX8_pass_22 : decode cX8_pass 22 = .ok (.iload 5, 2) := by decide +kernel
theorem dX8_pass_24 : decode cX8_pass 24 = .ok (.laload, 1) := by decide +kernel
theorem dX8_pass_25 : decode cX8_pass 25 = .ok (.lstore 6, 2) := by decide +kernel
theorem dX8_pass_27 : decode cX8_pass 27 = .ok (.iload 5, 2) := by decide +kernel
theorem dX8_pass_29 : decode cX8_pass 29 = .ok (.ifCond .gt 8, 3) := by decide +kernel
theorem dX8_pass_32 : decode cX8_pass 32 = .ok (.iload 4, 2) := by decide +kernel
theorem dX8_pass_34 : decode cX8_pass 34 = .ok (.ifCond .ne 10, 3) := by decide +kernel
theorem dX8_pass_37 : decode cX8_pass 37 = .ok (.iload 5, 2) := by decide +kernel
theorem dX8_pass_39 : decode cX8_pass 39 = .ok (.iconst 1, 1) := by decide +kernel
theorem dX8_pass_40 : decode cX8_pass 40 = .ok (.isub, 1) := by decide +kernel
theorem dX8_pass_41 : decode cX8_pass 41 = .ok (.goto 5, 3) := by decide +kernel
theorem dX8_pass_44 : decode cX8_pass 44 = .ok (.iload 5, 2) := by decide +kernel
theorem dX8_pass_46 : decode cX8_pass 46 = .ok (.istore 8, 2) := by decide +kernel
theorem dX8_pass_48 : decode cX8_pass 48 = .ok (.iload 5, 2) := by decide +kernel
theorem dX8_pass_50 : decode cX8_pass 50 = .ok (.bipush 30, 2) := by decide +kernel
theorem dX8_pass_52 : decode cX8_pass 52 = .ok (.if_icmp .lt 8, 3) := by decide +kernel
theorem dX8_pass_55 : decode cX8_pass 55 = .ok (.iload 4, 2) := by decide +kernel
theorem dX8_pass_57 : decode cX8_pass 57 = .ok (.ifCond .ne 10, 3) := by decide +kernel
theorem dX8_pass_60 : decode cX8_pass 60 = .ok (.iload 5, 2) := by decide +kernel
theorem dX8_pass_62 : decode cX8_pass 62 = .ok (.iconst 1, 1) := by decide +kernel
theorem dX8_pass_63 : decode cX8_pass 63 = .ok (.iadd, 1) := by decide +kernel
theorem dX8_pass_64 : decode cX8_pass 64 = .ok (.goto 5, 3) := by decide +kernel
theorem dX8_pass_67 : decode cX8_pass 67 = .ok (.iload 5, 2) := by decide +kernel
theorem dX8_pass_69 : decode cX8_pass 69 = .ok (.istore 9, 2) := by decide +kernel
theorem dX8_pass_71 : decode cX8_pass 71 = .ok (.aload_n 0, 1) := by decide +kernel
theorem dX8_pass_72 : decode cX8_pass 72 = .ok (.getfield 15, 3) := by decide +kernel
theorem dX8_pass_75 : decode cX8_pass 75 = .ok (.iload 8, 2) := by decide +kernel
theorem dX8_pass_77 : decode cX8_pass 77 = .ok (.lload 6, 2) := by decide +kernel
theorem dX8_pass_79 : decode cX8_pass 79 = .ok (.iload_n 1, 1) := by decide +kernel
theorem dX8_pass_80 : decode cX8_pass 80 = .ok (.i2l, 1) := by decide +kernel
theorem dX8_pass_81 : decode cX8_pass 81 = .ok (.lmul, 1) := by decide +kernel
theorem dX8_pass_82 : decode cX8_pass 82 = .ok (.invokestatic 24, 3) := by decide +kernel
theorem dX8_pass_85 : decode cX8_pass 85 = .ok (.aload_n 0, 1) := by decide +kernel
theorem dX8_pass_86 : decode cX8_pass 86 = .ok (.getfield 15, 3) := by decide +kernel
theorem dX8_pass_89 : decode cX8_pass 89 = .ok (.iload 5, 2) := by decide +kernel
theorem dX8_pass_91 : decode cX8_pass 91 = .ok (.lload 6, 2) := by decide +kernel
theorem dX8_pass_93 : decode cX8_pass 93 = .ok (.iload_n 2, 1) := by decide +kernel
theorem dX8_pass_94 : decode cX8_pass 94 = .ok (.i2l, 1) := by decide +kernel
theorem dX8_pass_95 : decode cX8_pass 95 = .ok (.lmul, 1) := by decide +kernel
theorem dX8_pass_96 : decode cX8_pass 96 = .ok (.invokestatic 24, 3) := by decide +kernel
theorem dX8_pass_99 : decode cX8_pass 99 = .ok (.aload_n 0, 1) := by decide +kernel
theorem dX8_pass_100 : decode cX8_pass 100 = .ok (.getfield 15, 3) := by decide +kernel
theorem dX8_pass_103 : decode cX8_pass 103 = .ok (.iload 9, 2) := by decide +kernel
theorem dX8_pass_105 : decode cX8_pass 105 = .ok (.lload 6, 2) := by decide +kernel
theorem dX8_pass_107 : decode cX8_pass 107 = .ok (.iload_n 3, 1) := by decide +kernel
theorem dX8_pass_108 : decode cX8_pass 108 = .ok (.i2l, 1) := by decide +kernel
theorem dX8_pass_109 : decode cX8_pass 109 = .ok (.lmul, 1) := by decide +kernel
theorem dX8_pass_110 : decode cX8_pass 110 = .ok (.invokestatic 24, 3) := by decide +kernel
theorem dX8_pass_113 : decode cX8_pass 113 = .ok (.iinc 5 1, 3) := by decide +kernel
theorem dX8_pass_116 : decode cX8_pass 116 = .ok (.goto (-105), 3) := by decide +kernel
theorem dX8_pass_119 : decode cX8_pass 119 = .ok (.aload_n 0, 1) := by decide +kernel
theorem dX8_pass_120 : decode cX8_pass 120 = .ok (.getfield 15, 3) := by decide +kernel
theorem dX8_pass_123 : decode cX8_pass 123 = .ok (.iconst 0, 1) := by decide +kernel
theorem dX8_pass_124 : decode cX8_pass 124 = .ok (.aload_n 0, 1) := by decide +kernel
theorem dX8_pass_125 : decode cX8_pass 125 = .ok (.getfield 9, 3) := by decide +kernel
theorem dX8_pass_128 : decode cX8_pass 128 = .ok (.iconst 0, 1) := by decide +kernel
theorem dX8_pass_129 : decode cX8_pass 129 = .ok (.bipush 31, 2) := by decide +kernel
theorem dX8_pass_131 : decode cX8_pass 131 = .ok (.invokestatic 28, 3) := by decide +kernel
theorem dX8_pass_134 : decode cX8_pass 134 = .ok (.return_, 1) := by decide +kernel
theorem dX8_upTo_0 : decode cX8_upTo 0 = .ok (.lconst 0, 1) := by decide +kernel
theorem dX8_upTo_1 : decode cX8_upTo 1 = .ok (.lstore_n 2, 1) := by decide +kernel
theorem dX8_upTo_2 : decode cX8_upTo 2 = .ok (.iconst 0, 1) := by decide +kernel
theorem dX8_upTo_3 : decode cX8_upTo 3 = .ok (.istore 4, 2) := by decide +kernel
theorem dX8_upTo_5 : decode cX8_upTo 5 = .ok (.iload 4, 2) := by decide +kernel
theorem dX8_upTo_7 : decode cX8_upTo 7 = .ok (.iload_n 1, 1) := by decide +kernel
theorem dX8_upTo_8 : decode cX8_upTo 8 = .ok (.if_icmp .gt 26, 3) := by decide +kernel
theorem dX8_upTo_11 : decode cX8_upTo 11 = .ok (.iload 4, 2) := by decide +kernel
theorem dX8_upTo_13 : decode cX8_upTo 13 = .ok (.bipush 30, 2) := by decide +kernel
theorem dX8_upTo_15 : decode cX8_upTo 15 = .ok (.if_icmp .gt 19, 3) := by decide +kernel
theorem dX8_upTo_18 : decode cX8_upTo 18 = .ok (.lload_n 2, 1) := by decide +kernel
theorem dX8_upTo_19 : decode cX8_upTo 19 = .ok (.aload_n 0, 1) := by decide +kernel
theorem dX8_upTo_20 : decode cX8_upTo 20 = .ok (.getfield 9, 3) := by decide +kernel
theorem dX8_upTo_23 : decode cX8_upTo 23 = .ok (.iload 4, 2) := by decide +kernel
theorem dX8_upTo_25 : decode cX8_upTo 25 = .ok (.laload, 1) := by decide +kernel
theorem dX8_upTo_26 : decode cX8_upTo 26 = .ok (.ladd, 1) := by decide +kernel
theorem dX8_upTo_27 : decode cX8_upTo 27 = .ok (.lstore_n 2, 1) := by decide +kernel
theorem dX8_upTo_28 : decode cX8_upTo 28 = .ok (.iinc 4 1, 3) := by decide +kernel
theorem dX8_upTo_31 : decode cX8_upTo 31 = .ok (.goto (-26), 3) := by decide +kernel
theorem dX8_upTo_34 : decode cX8_upTo 34 = .ok (.lload_n 2, 1) := by decide +kernel
theorem dX8_upTo_35 : decode cX8_upTo 35 = .ok (.lreturn, 1) := by decide +kernel
set_option maxRecDepth 20000 in
theorem ggX8_takeOutUpTo_X8_upTo : GoodIn wsX8_takeOutUpTo wsX8_upTo := goodIn_r _ [6, 1, 7, 8] (by decide +kernel) (by decide +kernel)
set_option maxRecDepth 20000 in
theorem gX8_takeOutUpTo_X8_upTo : GoodIn wsX8_takeOutUpTo (wsV RX8 34 RX8 yX8_upTo wsX8_upTo) := goodIn_app (goodIn_of _ (by decide +kernel)) ggX8_takeOutUpTo_X8_upTo
theorem dX8_takeOutUpTo_0 : decode cX8_takeOutUpTo 0 = .ok (.aload_n 0, 1) := by decide +kernel
theorem dX8_takeOutUpTo_1 : decode cX8_takeOutUpTo 1 = .ok (.iload_n 1, 1) := by decide +kernel
theorem dX8_takeOutUpTo_2 : decode cX8_takeOutUpTo 2 = .ok (.invokevirtual 34, 3) := by decide +kernel
theorem dX8_takeOutUpTo_5 : decode cX8_takeOutUpTo 5 = .ok (.lstore_n 2, 1) := by decide +kernel
theorem dX8_takeOutUpTo_6 : decode cX8_takeOutUpTo 6 = .ok (.iconst 0, 1) := by decide +kernel
theorem dX8_takeOutUpTo_7 : decode cX8_takeOutUpTo 7 = .ok (.istore 4, 2) := by decide +kernel
theorem dX8_takeOutUpTo_9 : decode cX8_takeOutUpTo 9 = .ok (.iload 4, 2) := by decide +kernel
theorem dX8_takeOutUpTo_11 : decode cX8_takeOutUpTo 11 = .ok (.iload_n 1, 1) := by decide +kernel
theorem dX8_takeOutUpTo_12 : decode cX8_takeOutUpTo 12 = .ok (.if_icmp .gt 24, 3) := by decide +kernel
theorem dX8_takeOutUpTo_15 : decode cX8_takeOutUpTo 15 = .ok (.iload 4, 2) := by decide +kernel
theorem dX8_takeOutUpTo_17 : decode cX8_takeOutUpTo 17 = .ok (.bipush 30, 2) := by decide +kernel
theorem dX8_takeOutUpTo_19 : decode cX8_takeOutUpTo 19 = .ok (.if_icmp .gt 17, 3) := by decide +kernel
theorem dX8_takeOutUpTo_22 : decode cX8_takeOutUpTo 22 = .ok (.aload_n 0, 1) := by decide +kernel
theorem dX8_takeOutUpTo_23 : decode cX8_takeOutUpTo 23 = .ok (.getfield 9, 3) := by decide +kernel
theorem dX8_takeOutUpTo_26 : decode cX8_takeOutUpTo 26 = .ok (.iload 4, 2) := by decide +kernel
theorem dX8_takeOutUpTo_28 : decode cX8_takeOutUpTo 28 = .ok (.lconst 0, 1) := by decide +kernel
theorem dX8_takeOutUpTo_29 : decode cX8_takeOutUpTo 29 = .ok (.lastore, 1) := by decide +kernel
theorem dX8_takeOutUpTo_30 : decode cX8_takeOutUpTo 30 = .ok (.iinc 4 1, 3) := by decide +kernel
theorem dX8_takeOutUpTo_33 : decode cX8_takeOutUpTo 33 = .ok (.goto (-24), 3) := by decide +kernel
theorem dX8_takeOutUpTo_36 : decode cX8_takeOutUpTo 36 = .ok (.lload_n 2, 1) := by decide +kernel
theorem dX8_takeOutUpTo_37 : decode cX8_takeOutUpTo 37 = .ok (.lreturn, 1) := by decide +kernel
theorem dX8_keepOnly_0 : decode cX8_keepOnly 0 = .ok (.iconst 0, 1) := by decide +kernel
theorem dX8_keepOnly_1 : decode cX8_keepOnly 1 = .ok (.istore_n 2, 1) := by decide +kernel
theorem dX8_keepOnly_2 : decode cX8_keepOnly 2 = .ok (.iload_n 2, 1) := by decide +kernel
theorem dX8_keepOnly_3 : decode cX8_keepOnly 3 = .ok (.bipush 30, 2) := by decide +kernel
theorem dX8_keepOnly_5 : decode cX8_keepOnly 5 = .ok (.if_icmp .gt 21, 3) := by decide +kernel
theorem dX8_keepOnly_8 : decode cX8_keepOnly 8 = .ok (.iload_n 2, 1) := by decide +kernel
theorem dX8_keepOnly_9 : decode cX8_keepOnly 9 = .ok (.iload_n 1, 1) := by decide +kernel
theorem dX8_keepOnly_10 : decode cX8_keepOnly 10 = .ok (.if_icmp .eq 10, 3) := by decide +kernel
theorem dX8_keepOnly_13 : decode cX8_keepOnly 13 = .ok (.aload_n 0, 1) := by decide +kernel
theorem dX8_keepOnly_14 : decode cX8_keepOnly 14 = .ok (.getfield 9, 3) := by decide +kernel
theorem dX8_keepOnly_17 : decode cX8_keepOnly 17 = .ok (.iload_n 2, 1) := by decide +kernel
theorem dX8_keepOnly_18 : decode cX8_keepOnly 18 = .ok (.lconst 0, 1) := by decide +kernel
theorem dX8_keepOnly_19 : decode cX8_keepOnly 19 = .ok (.lastore, 1) := by decide +kernel
theorem dX8_keepOnly_20 : decode cX8_keepOnly 20 = .ok (.iinc 2 1, 3) := by decide +kernel
theorem dX8_keepOnly_23 : decode cX8_keepOnly 23 = .ok (.goto (-21), 3) := by decide +kernel
theorem dX8_keepOnly_26 : decode cX8_keepOnly 26 = .ok (.return_, 1) := by decide +kernel
theorem dX8_add_0 : decode cX8_add 0 = .ok (.iload_n 1, 1) := by decide +kernel
theorem dX8_add_1 : decode cX8_add 1 = .ok (.ifCond .lt 16, 3) := by decide +kernel
theorem dX8_add_4 : decode cX8_add 4 = .ok (.iload_n 1, 1) := by decide +kernel
theorem dX8_add_5 : decode cX8_add 5 = .ok (.aload_n 0, 1) := by decide +kernel
theorem dX8_add_6 : decode cX8_add 6 = .ok (.arraylength, 1) := by decide +kernel
theorem dX8_add_7 : decode cX8_add 7 = .ok (.if_icmp .ge 10, 3) := by decide +kernel
theorem dX8_add_10 : decode cX8_add 10 = .ok (.aload_n 0, 1) := by decide +kernel
theorem dX8_add_11 : decode cX8_add 11 = .ok (.iload_n 1, 1) := by decide +kernel
theorem dX8_add_12 : decode cX8_add 12 = .ok (.dup2, 1) := by decide +kernel
theorem dX8_add_13 : decode cX8_add 13 = .ok (.laload, 1) := by decide +kernel
theorem dX8_add_14 : decode cX8_add 14 = .ok (.lload_n 2, 1) := by decide +kernel
theorem dX8_add_15 : decode cX8_add 15 = .ok (.ladd, 1) := by decide +kernel
theorem dX8_add_16 : decode cX8_add 16 = .ok (.lastore, 1) := by decide +kernel
theorem dX8_add_17 : decode cX8_add 17 = .ok (.return_, 1) := by decide +kernel
theorem dX9_init_0 : decode cX9_init 0 = .ok (.aload_n 0, 1) := by decide +kernel
theorem dX9_init_1 : decode cX9_init 1 = .ok (.invokespecial 3, 3) := by decide +kernel
theorem dX9_init_4 : decode cX9_init 4 = .ok (.return_, 1) := by decide +kernel
set_option maxRecDepth 20000 in
theorem ggX9_act_X9_takeOne : GoodIn wsX9_act wsX9_takeOne := goodIn_r _ [6] (by decide +kernel) (by decide +kernel)
set_option maxRecDepth 20000 in
theorem gX9_act_X9_takeOne_u9X0 : GoodIn wsX9_act (va_wsU RX9 9 RX0 "PassStones$Taker" ⟨"PassStones$Taker", "takeOne", "(I)I"⟩ yX9_takeOne wsX9_takeOne) := goodIn_app (goodIn_of _ (by decide +kernel)) ggX9_act_X9_takeOne
set_option maxRecDepth 20000 in
theorem gX9_act_X9_takeOne_u9X1 : GoodIn wsX9_act (va_wsU RX9 9 RX1 "PassStones$Taker" ⟨"PassStones$Taker", "takeOne", "(I)I"⟩ yX9_takeOne wsX9_takeOne) := goodIn_app (goodIn_of _ (by decide +kernel)) ggX9_act_X9_takeOne
set_option maxRecDepth 20000 in
theorem gX9_act_X9_takeOne_u9X2 : GoodIn wsX9_act (va_wsU RX9 9 RX2 "PassStones$Taker" ⟨"PassStones$Taker", "takeOne", "(I)I"⟩ yX9_takeOne wsX9_takeOne) := goodIn_app (goodIn_of _ (by decide +kernel)) ggX9_act_X9_takeOne
set_option maxRecDepth 20000 in
theorem gX9_act_X9_takeOne_u9X4 : GoodIn wsX9_act (va_wsU RX9 9 RX4 "PassStones$Taker" ⟨"PassStones$Taker", "takeOne", "(I)I"⟩ yX9_takeOne wsX9_takeOne) := goodIn_app (goodIn_of _ (by decide +kernel)) ggX9_act_X9_takeOne
set_option maxRecDepth 20000 in
theorem gX9_act_X9_takeOne : GoodIn wsX9_act (wsV RX9 9 RX9 yX9_takeOne wsX9_takeOne) := goodIn_app (goodIn_of _ (by decide +kernel)) ggX9_act_X9_takeOne
set_option maxRecDepth 20000 in
theorem gX9_act_X9_takeOne_u9X10 : GoodIn wsX9_act (va_wsU RX9 9 RX10 "PassStones$Taker" ⟨"PassStones$Taker", "takeOne", "(I)I"⟩ yX9_takeOne wsX9_takeOne) := goodIn_app (goodIn_of _ (by decide +kernel)) ggX9_act_X9_takeOne
theorem dX9_act_0 : decode cX9_act 0 = .ok (.aload_n 0, 1) := by decide +kernel
theorem dX9_act_1 : decode cX9_act 1 = .ok (.iload 4, 2) := by decide +kernel
theorem dX9_act_3 : decode cX9_act 3 = .ok (.invokevirtual 9, 3) := by decide +kernel
theorem dX9_act_6 : decode cX9_act 6 = .ok (.ireturn, 1) := by decide +kernel
theorem dX9_takeOne_0 : decode cX9_takeOne 0 = .ok (.iload_n 1, 1) := by decide +kernel
theorem dX9_takeOne_1 : decode cX9_takeOne 1 = .ok (.ifCond .le 7, 3) := by decide +kernel
theorem dX9_takeOne_4 : decode cX9_takeOne 4 = .ok (.iconst (-1), 1) := by decide +kernel
theorem dX9_takeOne_5 : decode cX9_takeOne 5 = .ok (.goto 4, 3) := by decide +kernel
theorem dX9_takeOne_8 : decode cX9_takeOne 8 = .ok (.iconst 0, 1) := by decide +kernel
theorem dX9_takeOne_9 : decode cX9_takeOne 9 = .ok (.ireturn, 1) := by decide +kernel
theorem dX9_layOne_0 : decode cX9_layOne 0 = .ok (.iload_n 1, 1) := by decide +kernel
theorem dX9_layOne_1 : decode cX9_layOne 1 = .ok (.bipush 30, 2) := by decide +kernel
theorem dX9_layOne_3 : decode cX9_layOne 3 = .ok (.if_icmp .ge 7, 3) := by decide +kernel
theorem dX9_layOne_6 : decode cX9_layOne 6 = .ok (.iconst 1, 1) := by decide +kernel
theorem dX9_layOne_7 : decode cX9_layOne 7 = .ok (.goto 4, 3) := by decide +kernel
theorem dX9_layOne_10 : decode cX9_layOne 10 = .ok (.iconst 0, 1) := by decide +kernel
theorem dX9_layOne_11 : decode cX9_layOne 11 = .ok (.ireturn, 1) := by decide +kernel
set_option maxRecDepth 20000 in
theorem ggX10_init_X4_init : GoodIn wsX10_init wsX4_init := goodIn_r _ [3, 4, 5, 6, 7, 8, 9] (by decide +kernel) (by decide +kernel)
set_option maxRecDepth 20000 in
theorem gX10_init_X4_init_n1 : GoodIn wsX10_init (wsX4_init) := ggX10_init_X4_init
theorem dX10_init_0 : decode cX10_init 0 = .ok (.aload_n 0, 1) := by decide +kernel
theorem dX10_init_1 : decode cX10_init 1 = .ok (.invokespecial 1, 3) := by decide +kernel
theorem dX10_init_4 : decode cX10_init 4 = .ok (.return_, 1) := by decide +kernel
set_option maxRecDepth 20000 in
theorem ggX10_act_X9_takeOne : GoodIn wsX10_act wsX9_takeOne := goodIn_r _ [6] (by decide +kernel) (by decide +kernel)
set_option maxRecDepth 20000 in
theorem gX10_act_X9_takeOne_u7X0 : GoodIn wsX10_act (va_wsU RX10 7 RX0 "PassStones$Taker" ⟨"PassStones$Wisher", "takeOne", "(I)I"⟩ yX9_takeOne wsX9_takeOne) := goodIn_app (goodIn_of _ (by decide +kernel)) ggX10_act_X9_takeOne
set_option maxRecDepth 20000 in
theorem gX10_act_X9_takeOne_u7X10 : GoodIn wsX10_act (va_wsU RX10 7 RX10 "PassStones$Taker" ⟨"PassStones$Wisher", "takeOne", "(I)I"⟩ yX9_takeOne wsX9_takeOne) := goodIn_app (goodIn_of _ (by decide +kernel)) ggX10_act_X9_takeOne
set_option maxRecDepth 20000 in
theorem ggX10_act_X9_layOne : GoodIn wsX10_act wsX9_layOne := goodIn_r _ [12] (by decide +kernel) (by decide +kernel)
set_option maxRecDepth 20000 in
theorem gX10_act_X9_layOne_u13X0 : GoodIn wsX10_act (va_wsU RX10 13 RX0 "PassStones$Taker" ⟨"PassStones$Wisher", "layOne", "(I)I"⟩ yX9_layOne wsX9_layOne) := goodIn_app (goodIn_of _ (by decide +kernel)) ggX10_act_X9_layOne
set_option maxRecDepth 20000 in
theorem gX10_act_X9_layOne_u13X10 : GoodIn wsX10_act (va_wsU RX10 13 RX10 "PassStones$Taker" ⟨"PassStones$Wisher", "layOne", "(I)I"⟩ yX9_layOne wsX9_layOne) := goodIn_app (goodIn_of _ (by decide +kernel)) ggX10_act_X9_layOne
theorem dX10_act_0 : decode cX10_act 0 = .ok (.iload 4, 2) := by decide +kernel
theorem dX10_act_2 : decode cX10_act 2 = .ok (.iload_n 3, 1) := by decide +kernel
theorem dX10_act_3 : decode cX10_act 3 = .ok (.if_icmp .le 10, 3) := by decide +kernel
theorem dX10_act_6 : decode cX10_act 6 = .ok (.aload_n 0, 1) := by decide +kernel
theorem dX10_act_7 : decode cX10_act 7 = .ok (.iload 4, 2) := by decide +kernel
theorem dX10_act_9 : decode cX10_act 9 = .ok (.invokevirtual 7, 3) := by decide +kernel
theorem dX10_act_12 : decode cX10_act 12 = .ok (.ireturn, 1) := by decide +kernel
theorem dX10_act_13 : decode cX10_act 13 = .ok (.iload 4, 2) := by decide +kernel
theorem dX10_act_15 : decode cX10_act 15 = .ok (.iload_n 3, 1) := by decide +kernel
theorem dX10_act_16 : decode cX10_act 16 = .ok (.if_icmp .ge 17, 3) := by decide +kernel
theorem dX10_act_19 : decode cX10_act 19 = .ok (.iload_n 2, 1) := by decide +kernel
theorem dX10_act_20 : decode cX10_act 20 = .ok (.iconst 1, 1) := by decide +kernel
theorem dX10_act_21 : decode cX10_act 21 = .ok (.if_icmp .ne 12, 3) := by decide +kernel
theorem dX10_act_24 : decode cX10_act 24 = .ok (.aload_n 0, 1) := by decide +kernel
theorem dX10_act_25 : decode cX10_act 25 = .ok (.iload 4, 2) := by decide +kernel
theorem dX10_act_27 : decode cX10_act 27 = .ok (.invokevirtual 13, 3) := by decide +kernel
theorem dX10_act_30 : decode cX10_act 30 = .ok (.goto 4, 3) := by decide +kernel
theorem dX10_act_33 : decode cX10_act 33 = .ok (.iconst 0, 1) := by decide +kernel
theorem dX10_act_34 : decode cX10_act 34 = .ok (.ireturn, 1) := by decide +kernel
