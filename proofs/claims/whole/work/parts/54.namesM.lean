set_option maxRecDepth 20000 in
theorem ggX12_init_X12_anew : GoodIn wsX12_init wsX12_anew := goodIn_r _ [25, 5, 26, 27, 28, 29, 30, 31, 32, 33, 34, 35, 36, 37, 38, 39, 40, 41, 42, 43, 44, 45, 46, 47, 48] (by decide +kernel) (by decide +kernel)
set_option maxRecDepth 20000 in
theorem gX12_init_X12_anew : GoodIn wsX12_init (wsV RX12 49 RX12 yX12_anew wsX12_anew) := goodIn_app (goodIn_of _ (by decide +kernel)) ggX12_init_X12_anew
theorem dX12_init_0 : decode cX12_init 0 = .ok (.aload_n 0, 1) := by decide +kernel
theorem dX12_init_1 : decode cX12_init 1 = .ok (.invokespecial 1, 3) := by decide +kernel
theorem dX12_init_4 : decode cX12_init 4 = .ok (.aload_n 0, 1) := by decide +kernel
theorem dX12_init_5 : decode cX12_init 5 = .ok (.sipush 452, 3) := by decide +kernel
theorem dX12_init_8 : decode cX12_init 8 = .ok (.newarray .int, 2) := by decide +kernel
theorem dX12_init_10 : decode cX12_init 10 = .ok (.putfield 7, 3) := by decide +kernel
theorem dX12_init_13 : decode cX12_init 13 = .ok (.aload_n 0, 1) := by decide +kernel
theorem dX12_init_14 : decode cX12_init 14 = .ok (.iconst 2, 1) := by decide +kernel
theorem dX12_init_15 : decode cX12_init 15 = .ok (.newarray .boolean, 2) := by decide +kernel
theorem dX12_init_17 : decode cX12_init 17 = .ok (.putfield 13, 3) := by decide +kernel
theorem dX12_init_20 : decode cX12_init 20 = .ok (.aload_n 0, 1) := by decide +kernel
theorem dX12_init_21 : decode cX12_init 21 = .ok (.iconst 3, 1) := by decide +kernel
theorem dX12_init_22 : decode cX12_init 22 = .ok (.newarray .int, 2) := by decide +kernel
theorem dX12_init_24 : decode cX12_init 24 = .ok (.putfield 17, 3) := by decide +kernel
theorem dX12_init_27 : decode cX12_init 27 = .ok (.aload_n 0, 1) := by decide +kernel
theorem dX12_init_28 : decode cX12_init 28 = .ok (.sipush 200, 3) := by decide +kernel
theorem dX12_init_31 : decode cX12_init 31 = .ok (.newarray .byte, 2) := by decide +kernel
theorem dX12_init_33 : decode cX12_init 33 = .ok (.putfield 20, 3) := by decide +kernel
theorem dX12_init_36 : decode cX12_init 36 = .ok (.aload_n 0, 1) := by decide +kernel
theorem dX12_init_37 : decode cX12_init 37 = .ok (.sipush 200, 3) := by decide +kernel
theorem dX12_init_40 : decode cX12_init 40 = .ok (.newarray .int, 2) := by decide +kernel
theorem dX12_init_42 : decode cX12_init 42 = .ok (.putfield 24, 3) := by decide +kernel
theorem dX12_init_45 : decode cX12_init 45 = .ok (.aload_n 0, 1) := by decide +kernel
theorem dX12_init_46 : decode cX12_init 46 = .ok (.bipush 12, 2) := by decide +kernel
theorem dX12_init_48 : decode cX12_init 48 = .ok (.newarray .int, 2) := by decide +kernel
theorem dX12_init_50 : decode cX12_init 50 = .ok (.putfield 27, 3) := by decide +kernel
theorem dX12_init_53 : decode cX12_init 53 = .ok (.aload_n 0, 1) := by decide +kernel
theorem dX12_init_54 : decode cX12_init 54 = .ok (.sipush 744, 3) := by decide +kernel
theorem dX12_init_57 : decode cX12_init 57 = .ok (.newarray .int, 2) := by decide +kernel
theorem dX12_init_59 : decode cX12_init 59 = .ok (.putfield 30, 3) := by decide +kernel
theorem dX12_init_62 : decode cX12_init 62 = .ok (.aload_n 0, 1) := by decide +kernel
theorem dX12_init_63 : decode cX12_init 63 = .ok (.sipush 372, 3) := by decide +kernel
theorem dX12_init_66 : decode cX12_init 66 = .ok (.newarray .int, 2) := by decide +kernel
theorem dX12_init_68 : decode cX12_init 68 = .ok (.putfield 33, 3) := by decide +kernel
theorem dX12_init_71 : decode cX12_init 71 = .ok (.aload_n 0, 1) := by decide +kernel
theorem dX12_init_72 : decode cX12_init 72 = .ok (.sipush 403, 3) := by decide +kernel
theorem dX12_init_75 : decode cX12_init 75 = .ok (.newarray .int, 2) := by decide +kernel
theorem dX12_init_77 : decode cX12_init 77 = .ok (.putfield 36, 3) := by decide +kernel
theorem dX12_init_80 : decode cX12_init 80 = .ok (.aload_n 0, 1) := by decide +kernel
theorem dX12_init_81 : decode cX12_init 81 = .ok (.sipush 403, 3) := by decide +kernel
theorem dX12_init_84 : decode cX12_init 84 = .ok (.newarray .int, 2) := by decide +kernel
theorem dX12_init_86 : decode cX12_init 86 = .ok (.putfield 39, 3) := by decide +kernel
theorem dX12_init_89 : decode cX12_init 89 = .ok (.aload_n 0, 1) := by decide +kernel
theorem dX12_init_90 : decode cX12_init 90 = .ok (.bipush 31, 2) := by decide +kernel
theorem dX12_init_92 : decode cX12_init 92 = .ok (.newarray .long, 2) := by decide +kernel
theorem dX12_init_94 : decode cX12_init 94 = .ok (.putfield 42, 3) := by decide +kernel
theorem dX12_init_97 : decode cX12_init 97 = .ok (.aload_n 0, 1) := by decide +kernel
theorem dX12_init_98 : decode cX12_init 98 = .ok (.bipush 31, 2) := by decide +kernel
theorem dX12_init_100 : decode cX12_init 100 = .ok (.newarray .long, 2) := by decide +kernel
theorem dX12_init_102 : decode cX12_init 102 = .ok (.putfield 46, 3) := by decide +kernel
theorem dX12_init_105 : decode cX12_init 105 = .ok (.aload_n 0, 1) := by decide +kernel
theorem dX12_init_106 : decode cX12_init 106 = .ok (.invokevirtual 49, 3) := by decide +kernel
theorem dX12_init_109 : decode cX12_init 109 = .ok (.aload_n 0, 1) := by decide +kernel
theorem dX12_init_110 : decode cX12_init 110 = .ok (.lconst 1, 1) := by decide +kernel
theorem dX12_init_111 : decode cX12_init 111 = .ok (.putfield 52, 3) := by decide +kernel
theorem dX12_init_114 : decode cX12_init 114 = .ok (.return_, 1) := by decide +kernel
theorem dX12_in_0 : decode cX12_in 0 = .ok (.iload_n 0, 1) := by decide +kernel
theorem dX12_in_1 : decode cX12_in 1 = .ok (.iload_n 1, 1) := by decide +kernel
theorem dX12_in_2 : decode cX12_in 2 = .ok (.if_icmp .lt 12, 3) := by decide +kernel
theorem dX12_in_5 : decode cX12_in 5 = .ok (.iload_n 0, 1) := by decide +kernel
theorem dX12_in_6 : decode cX12_in 6 = .ok (.iload_n 2, 1) := by decide +kernel
theorem dX12_in_7 : decode cX12_in 7 = .ok (.if_icmp .gt 7, 3) := by decide +kernel
theorem dX12_in_10 : decode cX12_in 10 = .ok (.iconst 1, 1) := by decide +kernel
theorem dX12_in_11 : decode cX12_in 11 = .ok (.goto 4, 3) := by decide +kernel
theorem dX12_in_14 : decode cX12_in 14 = .ok (.iconst 0, 1) := by decide +kernel
theorem dX12_in_15 : decode cX12_in 15 = .ok (.ireturn, 1) := by decide +kernel
theorem dX12_anew_0 : decode cX12_anew 0 = .ok (.aload_n 0, 1) := by decide +kernel
theorem dX12_anew_1 : decode cX12_anew 1 = .ok (.getfield 7, 3) := by decide +kernel
theorem dX12_anew_4 : decode cX12_anew 4 = .ok (.iconst 0, 1) := by decide +kernel
theorem dX12_anew_5 : decode cX12_anew 5 = .ok (.bipush 10, 2) := by decide +kernel
theorem dX12_anew_7 : decode cX12_anew 7 = .ok (.iastore, 1) := by decide +kernel
theorem dX12_anew_8 : decode cX12_anew 8 = .ok (.aload_n 0, 1) := by decide +kernel
theorem dX12_anew_9 : decode cX12_anew 9 = .ok (.getfield 7, 3) := by decide +kernel
theorem dX12_anew_12 : decode cX12_anew 12 = .ok (.iconst 1, 1) := by decide +kernel
theorem dX12_anew_13 : decode cX12_anew 13 = .ok (.iconst 0, 1) := by decide +kernel
theorem dX12_anew_14 : decode cX12_anew 14 = .ok (.iastore, 1) := by decide +kernel
theorem dX12_anew_15 : decode cX12_anew 15 = .ok (.aload_n 0, 1) := by decide +kernel
theorem dX12_anew_16 : decode cX12_anew 16 = .ok (.getfield 7, 3) := by decide +kernel
theorem dX12_anew_19 : decode cX12_anew 19 = .ok (.iconst 2, 1) := by decide +kernel
theorem dX12_anew_20 : decode cX12_anew 20 = .ok (.iconst 0, 1) := by decide +kernel
theorem dX12_anew_21 : decode cX12_anew 21 = .ok (.iastore, 1) := by decide +kernel
theorem dX12_anew_22 : decode cX12_anew 22 = .ok (.aload_n 0, 1) := by decide +kernel
theorem dX12_anew_23 : decode cX12_anew 23 = .ok (.getfield 7, 3) := by decide +kernel
theorem dX12_anew_26 : decode cX12_anew 26 = .ok (.iconst 3, 1) := by decide +kernel
theorem dX12_anew_27 : decode cX12_anew 27 = .ok (.iconst 0, 1) := by decide +kernel
theorem dX12_anew_28 : decode cX12_anew 28 = .ok (.iastore, 1) := by decide +kernel
theorem dX12_anew_29 : decode cX12_anew 29 = .ok (.aload_n 0, 1) := by decide +kernel
theorem dX12_anew_30 : decode cX12_anew 30 = .ok (.getfield 7, 3) := by decide +kernel
theorem dX12_anew_33 : decode cX12_anew 33 = .ok (.iconst 4, 1) := by decide +kernel
theorem dX12_anew_34 : decode cX12_anew 34 = .ok (.iconst 0, 1) := by decide +kernel
theorem dX12_anew_35 : decode cX12_anew 35 = .ok (.iastore, 1) := by decide +kernel
theorem dX12_anew_36 : decode cX12_anew 36 = .ok (.aload_n 0, 1) := by decide +kernel
theorem dX12_anew_37 : decode cX12_anew 37 = .ok (.getfield 7, 3) := by decide +kernel
theorem dX12_anew_40 : decode cX12_anew 40 = .ok (.iconst 5, 1) := by decide +kernel
theorem dX12_anew_41 : decode cX12_anew 41 = .ok (.iconst 0, 1) := by decide +kernel
theorem dX12_anew_42 : decode cX12_anew 42 = .ok (.iastore, 1) := by decide +kernel
theorem dX12_anew_43 : decode cX12_anew 43 = .ok (.return_, 1) := by decide +kernel
theorem dX12_copy_0 : decode cX12_copy 0 = .ok (.iconst 0, 1) := by decide +kernel
theorem dX12_copy_1 : decode cX12_copy 1 = .ok (.istore_n 3, 1) := by decide +kernel
theorem dX12_copy_2 : decode cX12_copy 2 = .ok (.iload_n 3, 1) := by decide +kernel
theorem dX12_copy_3 : decode cX12_copy 3 = .ok (.bipush 113, 2) := by decide +kernel
theorem dX12_copy_5 : decode cX12_copy 5 = .ok (.if_icmp .ge 25, 3) := by decide +kernel
theorem dX12_copy_8 : decode cX12_copy 8 = .ok (.aload_n 0, 1) := by decide +kernel
theorem dX12_copy_9 : decode cX12_copy 9 = .ok (.getfield 7, 3) := by decide +kernel
theorem dX12_copy_12 : decode cX12_copy 12 = .ok (.iload_n 2, 1) := by decide +kernel
theorem dX12_copy_13 : decode cX12_copy 13 = .ok (.iload_n 3, 1) := by decide +kernel
theorem dX12_copy_14 : decode cX12_copy 14 = .ok (.iadd, 1) := by decide +kernel
theorem dX12_copy_15 : decode cX12_copy 15 = .ok (.aload_n 0, 1) := by decide +kernel
theorem dX12_copy_16 : decode cX12_copy 16 = .ok (.getfield 7, 3) := by decide +kernel
theorem dX12_copy_19 : decode cX12_copy 19 = .ok (.iload_n 1, 1) := by decide +kernel
theorem dX12_copy_20 : decode cX12_copy 20 = .ok (.iload_n 3, 1) := by decide +kernel
theorem dX12_copy_21 : decode cX12_copy 21 = .ok (.iadd, 1) := by decide +kernel
theorem dX12_copy_22 : decode cX12_copy 22 = .ok (.iaload, 1) := by decide +kernel
theorem dX12_copy_23 : decode cX12_copy 23 = .ok (.iastore, 1) := by decide +kernel
theorem dX12_copy_24 : decode cX12_copy 24 = .ok (.iinc 3 1, 3) := by decide +kernel
theorem dX12_copy_27 : decode cX12_copy 27 = .ok (.goto (-25), 3) := by decide +kernel
theorem dX12_copy_30 : decode cX12_copy 30 = .ok (.return_, 1) := by decide +kernel
theorem dX12_bad_0 : decode cX12_bad 0 = .ok (.aload_n 0, 1) := by decide +kernel
theorem dX12_bad_1 : decode cX12_bad 1 = .ok (.getfield 17, 3) := by decide +kernel
theorem dX12_bad_4 : decode cX12_bad 4 = .ok (.iconst 0, 1) := by decide +kernel
theorem dX12_bad_5 : decode cX12_bad 5 = .ok (.dup2, 1) := by decide +kernel
theorem dX12_bad_6 : decode cX12_bad 6 = .ok (.iaload, 1) := by decide +kernel
theorem dX12_bad_7 : decode cX12_bad 7 = .ok (.iconst 1, 1) := by decide +kernel
theorem dX12_bad_8 : decode cX12_bad 8 = .ok (.iadd, 1) := by decide +kernel
theorem dX12_bad_9 : decode cX12_bad 9 = .ok (.iastore, 1) := by decide +kernel
theorem dX12_bad_10 : decode cX12_bad 10 = .ok (.bipush (-2), 2) := by decide +kernel
theorem dX12_bad_12 : decode cX12_bad 12 = .ok (.ireturn, 1) := by decide +kernel
theorem dX12_no_0 : decode cX12_no 0 = .ok (.aload_n 0, 1) := by decide +kernel
theorem dX12_no_1 : decode cX12_no 1 = .ok (.getfield 17, 3) := by decide +kernel
theorem dX12_no_4 : decode cX12_no 4 = .ok (.iconst 1, 1) := by decide +kernel
theorem dX12_no_5 : decode cX12_no 5 = .ok (.dup2, 1) := by decide +kernel
theorem dX12_no_6 : decode cX12_no 6 = .ok (.iaload, 1) := by decide +kernel
theorem dX12_no_7 : decode cX12_no 7 = .ok (.iconst 1, 1) := by decide +kernel
theorem dX12_no_8 : decode cX12_no 8 = .ok (.iadd, 1) := by decide +kernel
theorem dX12_no_9 : decode cX12_no 9 = .ok (.iastore, 1) := by decide +kernel
theorem dX12_no_10 : decode cX12_no 10 = .ok (.bipush (-3), 2) := by decide +kernel
theorem dX12_no_12 : decode cX12_no 12 = .ok (.ireturn, 1) := by decide +kernel
theorem dX12_full_0 : decode cX12_full 0 = .ok (.aload_n 0, 1) := by decide +kernel
theorem dX12_full_1 : decode cX12_full 1 = .ok (.getfield 17, 3) := by decide +kernel
theorem dX12_full_4 : decode cX12_full 4 = .ok (.iconst 2, 1) := by decide +kernel
theorem dX12_full_5 : decode cX12_full 5 = .ok (.dup2, 1) := by decide +kernel
theorem dX12_full_6 : decode cX12_full 6 = .ok (.iaload, 1) := by decide +kernel
theorem dX12_full_7 : decode cX12_full 7 = .ok (.iconst 1, 1) := by decide +kernel
theorem dX12_full_8 : decode cX12_full 8 = .ok (.iadd, 1) := by decide +kernel
theorem dX12_full_9 : decode cX12_full 9 = .ok (.iastore, 1) := by decide +kernel
theorem dX12_full_10 : decode cX12_full 10 = .ok (.bipush (-4), 2) := by decide +kernel
theorem dX12_full_12 : decode cX12_full 12 = .ok (.ireturn, 1) := by decide +kernel
set_option maxRecDepth 20000 in
theorem ggX12_told_X12_bad : GoodIn wsX12_told wsX12_bad := goodIn_r _ [5, 6, 11, 12, 13, 14, 15, 16, 17, 18, 19, 20, 21, 22, 23, 24, 25, 26, 27, 28, 29, 30, 31, 32, 33] (by decide +kernel) (by decide +kernel)
set_option maxRecDepth 20000 in
theorem gX12_told_X12_bad : GoodIn wsX12_told (wsV RX12 56 RX12 yX12_bad wsX12_bad) := goodIn_app (goodIn_of _ (by decide +kernel)) ggX12_told_X12_bad
set_option maxRecDepth 20000 in
theorem ggX12_told_X12_full : GoodIn wsX12_told wsX12_full := goodIn_r _ [10, 6, 11, 12, 13, 14, 15, 16, 17, 18, 19, 20, 21, 22, 23, 24, 25, 26, 27, 28, 29, 30, 31, 32, 33] (by decide +kernel) (by decide +kernel)
set_option maxRecDepth 20000 in
theorem gX12_told_X12_full : GoodIn wsX12_told (wsV RX12 60 RX12 yX12_full wsX12_full) := goodIn_app (goodIn_of _ (by decide +kernel)) ggX12_told_X12_full
theorem dX12_told_0 : decode cX12_told 0 = .ok (.iload_n 1, 1) := by decide +kernel
theorem dX12_told_1 : decode cX12_told 1 = .ok (.bipush (-2), 2) := by decide +kernel
theorem dX12_told_3 : decode cX12_told 3 = .ok (.if_icmp .ne 10, 3) := by decide +kernel
theorem dX12_told_6 : decode cX12_told 6 = .ok (.aload_n 0, 1) := by decide +kernel
theorem dX12_told_7 : decode cX12_told 7 = .ok (.invokevirtual 56, 3) := by decide +kernel
theorem dX12_told_10 : decode cX12_told 10 = .ok (.goto 17, 3) := by decide +kernel
theorem dX12_told_13 : decode cX12_told 13 = .ok (.iload_n 1, 1) := by decide +kernel
theorem dX12_told_14 : decode cX12_told 14 = .ok (.bipush (-4), 2) := by decide +kernel
theorem dX12_told_16 : decode cX12_told 16 = .ok (.if_icmp .ne 10, 3) := by decide +kernel
theorem dX12_told_19 : decode cX12_told 19 = .ok (.aload_n 0, 1) := by decide +kernel
theorem dX12_told_20 : decode cX12_told 20 = .ok (.invokevirtual 60, 3) := by decide +kernel
theorem dX12_told_23 : decode cX12_told 23 = .ok (.goto 4, 3) := by decide +kernel
theorem dX12_told_26 : decode cX12_told 26 = .ok (.iload_n 1, 1) := by decide +kernel
theorem dX12_told_27 : decode cX12_told 27 = .ok (.ireturn, 1) := by decide +kernel
theorem dX12_ofPasser_0 : decode cX12_ofPasser 0 = .ok (.aload_n 0, 1) := by decide +kernel
theorem dX12_ofPasser_1 : decode cX12_ofPasser 1 = .ok (.getfield 7, 3) := by decide +kernel
theorem dX12_ofPasser_4 : decode cX12_ofPasser 4 = .ok (.bipush 6, 2) := by decide +kernel
theorem dX12_ofPasser_6 : decode cX12_ofPasser 6 = .ok (.bipush 6, 2) := by decide +kernel
theorem dX12_ofPasser_8 : decode cX12_ofPasser 8 = .ok (.iload_n 1, 1) := by decide +kernel
theorem dX12_ofPasser_9 : decode cX12_ofPasser 9 = .ok (.imul, 1) := by decide +kernel
theorem dX12_ofPasser_10 : decode cX12_ofPasser 10 = .ok (.iadd, 1) := by decide +kernel
theorem dX12_ofPasser_11 : decode cX12_ofPasser 11 = .ok (.iload_n 2, 1) := by decide +kernel
theorem dX12_ofPasser_12 : decode cX12_ofPasser 12 = .ok (.iadd, 1) := by decide +kernel
theorem dX12_ofPasser_13 : decode cX12_ofPasser 13 = .ok (.iaload, 1) := by decide +kernel
theorem dX12_ofPasser_14 : decode cX12_ofPasser 14 = .ok (.ireturn, 1) := by decide +kernel
set_option maxRecDepth 20000 in
theorem ggX12_isPasser_X12_in : GoodIn wsX12_isPasser wsX12_in := goodIn_r _ [5] (by decide +kernel) (by decide +kernel)
set_option maxRecDepth 20000 in
theorem gX12_isPasser_X12_in : GoodIn wsX12_isPasser (va_wsS RX12 63 yX12_in wsX12_in) := goodIn_app (goodIn_of _ (by decide +kernel)) ggX12_isPasser_X12_in
theorem dX12_isPasser_0 : decode cX12_isPasser 0 = .ok (.iload_n 1, 1) := by decide +kernel
theorem dX12_isPasser_1 : decode cX12_isPasser 1 = .ok (.iconst 0, 1) := by decide +kernel
theorem dX12_isPasser_2 : decode cX12_isPasser 2 = .ok (.aload_n 0, 1) := by decide +kernel
theorem dX12_isPasser_3 : decode cX12_isPasser 3 = .ok (.getfield 7, 3) := by decide +kernel
theorem dX12_isPasser_6 : decode cX12_isPasser 6 = .ok (.iconst 2, 1) := by decide +kernel
theorem dX12_isPasser_7 : decode cX12_isPasser 7 = .ok (.iaload, 1) := by decide +kernel
theorem dX12_isPasser_8 : decode cX12_isPasser 8 = .ok (.iconst 1, 1) := by decide +kernel
theorem dX12_isPasser_9 : decode cX12_isPasser 9 = .ok (.isub, 1) := by decide +kernel
theorem dX12_isPasser_10 : decode cX12_isPasser 10 = .ok (.invokestatic 63, 3) := by decide +kernel
theorem dX12_isPasser_13 : decode cX12_isPasser 13 = .ok (.ireturn, 1) := by decide +kernel
set_option maxRecDepth 20000 in
theorem ggX12_setWall_X12_in : GoodIn wsX12_setWall wsX12_in := goodIn_r _ [5] (by decide +kernel) (by decide +kernel)
set_option maxRecDepth 20000 in
theorem gX12_setWall_X12_in : GoodIn wsX12_setWall (va_wsS RX12 63 yX12_in wsX12_in) := goodIn_app (goodIn_of _ (by decide +kernel)) ggX12_setWall_X12_in
theorem dX12_setWall_0 : decode cX12_setWall 0 = .ok (.iload_n 1, 1) := by decide +kernel
theorem dX12_setWall_1 : decode cX12_setWall 1 = .ok (.iconst 0, 1) := by decide +kernel
theorem dX12_setWall_2 : decode cX12_setWall 2 = .ok (.bipush 30, 2) := by decide +kernel
theorem dX12_setWall_4 : decode cX12_setWall 4 = .ok (.invokestatic 63, 3) := by decide +kernel
theorem dX12_setWall_7 : decode cX12_setWall 7 = .ok (.ifCond .ne 6, 3) := by decide +kernel
theorem dX12_setWall_10 : decode cX12_setWall 10 = .ok (.bipush (-2), 2) := by decide +kernel
theorem dX12_setWall_12 : decode cX12_setWall 12 = .ok (.ireturn, 1) := by decide +kernel
theorem dX12_setWall_13 : decode cX12_setWall 13 = .ok (.aload_n 0, 1) := by decide +kernel
theorem dX12_setWall_14 : decode cX12_setWall 14 = .ok (.getfield 7, 3) := by decide +kernel
theorem dX12_setWall_17 : decode cX12_setWall 17 = .ok (.iconst 0, 1) := by decide +kernel
theorem dX12_setWall_18 : decode cX12_setWall 18 = .ok (.iaload, 1) := by decide +kernel
theorem dX12_setWall_19 : decode cX12_setWall 19 = .ok (.istore_n 2, 1) := by decide +kernel
theorem dX12_setWall_20 : decode cX12_setWall 20 = .ok (.aload_n 0, 1) := by decide +kernel
theorem dX12_setWall_21 : decode cX12_setWall 21 = .ok (.getfield 7, 3) := by decide +kernel
theorem dX12_setWall_24 : decode cX12_setWall 24 = .ok (.iconst 0, 1) := by decide +kernel
theorem dX12_setWall_25 : decode cX12_setWall 25 = .ok (.iload_n 1, 1) := by decide +kernel
theorem dX12_setWall_26 : decode cX12_setWall 26 = .ok (.iastore, 1) := by decide +kernel
theorem dX12_setWall_27 : decode cX12_setWall 27 = .ok (.iload_n 2, 1) := by decide +kernel
theorem dX12_setWall_28 : decode cX12_setWall 28 = .ok (.ireturn, 1) := by decide +kernel
set_option maxRecDepth 20000 in
theorem ggX12_setCoach_X12_in : GoodIn wsX12_setCoach wsX12_in := goodIn_r _ [5] (by decide +kernel) (by decide +kernel)
set_option maxRecDepth 20000 in
theorem gX12_setCoach_X12_in : GoodIn wsX12_setCoach (va_wsS RX12 63 yX12_in wsX12_in) := goodIn_app (goodIn_of _ (by decide +kernel)) ggX12_setCoach_X12_in
theorem dX12_setCoach_0 : decode cX12_setCoach 0 = .ok (.iload_n 1, 1) := by decide +kernel
theorem dX12_setCoach_1 : decode cX12_setCoach 1 = .ok (.iconst 0, 1) := by decide +kernel
theorem dX12_setCoach_2 : decode cX12_setCoach 2 = .ok (.bipush 30, 2) := by decide +kernel
theorem dX12_setCoach_4 : decode cX12_setCoach 4 = .ok (.invokestatic 63, 3) := by decide +kernel
theorem dX12_setCoach_7 : decode cX12_setCoach 7 = .ok (.ifCond .ne 6, 3) := by decide +kernel
theorem dX12_setCoach_10 : decode cX12_setCoach 10 = .ok (.bipush (-2), 2) := by decide +kernel
theorem dX12_setCoach_12 : decode cX12_setCoach 12 = .ok (.ireturn, 1) := by decide +kernel
theorem dX12_setCoach_13 : decode cX12_setCoach 13 = .ok (.aload_n 0, 1) := by decide +kernel
theorem dX12_setCoach_14 : decode cX12_setCoach 14 = .ok (.getfield 7, 3) := by decide +kernel
theorem dX12_setCoach_17 : decode cX12_setCoach 17 = .ok (.iconst 1, 1) := by decide +kernel
theorem dX12_setCoach_18 : decode cX12_setCoach 18 = .ok (.iaload, 1) := by decide +kernel
theorem dX12_setCoach_19 : decode cX12_setCoach 19 = .ok (.istore_n 2, 1) := by decide +kernel
theorem dX12_setCoach_20 : decode cX12_setCoach 20 = .ok (.aload_n 0, 1) := by decide +kernel
theorem dX12_setCoach_21 : decode cX12_setCoach 21 = .ok (.getfield 7, 3) := by decide +kernel
theorem dX12_setCoach_24 : decode cX12_setCoach 24 = .ok (.iconst 1, 1) := by decide +kernel
theorem dX12_setCoach_25 : decode cX12_setCoach 25 = .ok (.iload_n 1, 1) := by decide +kernel
theorem dX12_setCoach_26 : decode cX12_setCoach 26 = .ok (.iastore, 1) := by decide +kernel
theorem dX12_setCoach_27 : decode cX12_setCoach 27 = .ok (.iload_n 2, 1) := by decide +kernel
theorem dX12_setCoach_28 : decode cX12_setCoach 28 = .ok (.ireturn, 1) := by decide +kernel
set_option maxRecDepth 20000 in
theorem ggX12_addPasser_X12_ofPasser : GoodIn wsX12_addPasser wsX12_ofPasser := goodIn_r _ [6, 1, 10, 11, 12, 13, 14, 15, 16, 17, 18, 19, 20, 21, 22, 23, 24, 25, 26, 27, 28, 29, 30, 31, 32] (by decide +kernel) (by decide +kernel)
set_option maxRecDepth 20000 in
theorem gX12_addPasser_X12_ofPasser : GoodIn wsX12_addPasser (wsV RX12 67 RX12 yX12_ofPasser wsX12_ofPasser) := goodIn_app (goodIn_of _ (by decide +kernel)) ggX12_addPasser_X12_ofPasser
set_option maxRecDepth 20000 in
theorem ggX12_addPasser_X12_in : GoodIn wsX12_addPasser wsX12_in := goodIn_r _ [9] (by decide +kernel) (by decide +kernel)
set_option maxRecDepth 20000 in
theorem gX12_addPasser_X12_in : GoodIn wsX12_addPasser (va_wsS RX12 63 yX12_in wsX12_in) := goodIn_app (goodIn_of _ (by decide +kernel)) ggX12_addPasser_X12_in
theorem dX12_addPasser_0 : decode cX12_addPasser 0 = .ok (.aload_n 0, 1) := by decide +kernel
theorem dX12_addPasser_1 : decode cX12_addPasser 1 = .ok (.getfield 7, 3) := by decide +kernel
theorem dX12_addPasser_4 : decode cX12_addPasser 4 = .ok (.iconst 2, 1) := by decide +kernel
theorem dX12_addPasser_5 : decode cX12_addPasser 5 = .ok (.iaload, 1) := by decide +kernel
theorem dX12_addPasser_6 : decode cX12_addPasser 6 = .ok (.istore 5, 2) := by decide +kernel
theorem dX12_addPasser_8 : decode cX12_addPasser 8 = .ok (.iload 5, 2) := by decide +kernel
theorem dX12_addPasser_10 : decode cX12_addPasser 10 = .ok (.ifCond .ne 7, 3) := by decide +kernel
theorem dX12_addPasser_13 : decode cX12_addPasser 13 = .ok (.iconst 0, 1) := by decide +kernel
theorem dX12_addPasser_14 : decode cX12_addPasser 14 = .ok (.goto 12, 3) := by decide +kernel
theorem dX12_addPasser_17 : decode cX12_addPasser 17 = .ok (.aload_n 0, 1) := by decide +kernel
theorem dX12_addPasser_18 : decode cX12_addPasser 18 = .ok (.iload 5, 2) := by decide +kernel
theorem dX12_addPasser_20 : decode cX12_addPasser 20 = .ok (.iconst 1, 1) := by decide +kernel
theorem dX12_addPasser_21 : decode cX12_addPasser 21 = .ok (.isub, 1) := by decide +kernel
theorem dX12_addPasser_22 : decode cX12_addPasser 22 = .ok (.iconst 0, 1) := by decide +kernel
theorem dX12_addPasser_23 : decode cX12_addPasser 23 = .ok (.invokevirtual 67, 3) := by decide +kernel
theorem dX12_addPasser_26 : decode cX12_addPasser 26 = .ok (.istore 6, 2) := by decide +kernel
theorem dX12_addPasser_28 : decode cX12_addPasser 28 = .ok (.iload_n 1, 1) := by decide +kernel
theorem dX12_addPasser_29 : decode cX12_addPasser 29 = .ok (.iload 6, 2) := by decide +kernel
theorem dX12_addPasser_31 : decode cX12_addPasser 31 = .ok (.bipush 99, 2) := by decide +kernel
theorem dX12_addPasser_33 : decode cX12_addPasser 33 = .ok (.invokestatic 63, 3) := by decide +kernel
theorem dX12_addPasser_36 : decode cX12_addPasser 36 = .ok (.ifCond .eq 32, 3) := by decide +kernel
theorem dX12_addPasser_39 : decode cX12_addPasser 39 = .ok (.iload_n 2, 1) := by decide +kernel
theorem dX12_addPasser_40 : decode cX12_addPasser 40 = .ok (.iconst 0, 1) := by decide +kernel
theorem dX12_addPasser_41 : decode cX12_addPasser 41 = .ok (.iconst 5, 1) := by decide +kernel
theorem dX12_addPasser_42 : decode cX12_addPasser 42 = .ok (.invokestatic 63, 3) := by decide +kernel
theorem dX12_addPasser_45 : decode cX12_addPasser 45 = .ok (.ifCond .eq 23, 3) := by decide +kernel
theorem dX12_addPasser_48 : decode cX12_addPasser 48 = .ok (.iload_n 3, 1) := by decide +kernel
theorem dX12_addPasser_49 : decode cX12_addPasser 49 = .ok (.iconst 0, 1) := by decide +kernel
theorem dX12_addPasser_50 : decode cX12_addPasser 50 = .ok (.iconst 1, 1) := by decide +kernel
theorem dX12_addPasser_51 : decode cX12_addPasser 51 = .ok (.invokestatic 63, 3) := by decide +kernel
theorem dX12_addPasser_54 : decode cX12_addPasser 54 = .ok (.ifCond .eq 14, 3) := by decide +kernel
theorem dX12_addPasser_57 : decode cX12_addPasser 57 = .ok (.iload 4, 2) := by decide +kernel
theorem dX12_addPasser_59 : decode cX12_addPasser 59 = .ok (.iconst 0, 1) := by decide +kernel
theorem dX12_addPasser_60 : decode cX12_addPasser 60 = .ok (.bipush 30, 2) := by decide +kernel
theorem dX12_addPasser_62 : decode cX12_addPasser 62 = .ok (.invokestatic 63, 3) := by decide +kernel
theorem dX12_addPasser_65 : decode cX12_addPasser 65 = .ok (.ifCond .ne 6, 3) := by decide +kernel
theorem dX12_addPasser_68 : decode cX12_addPasser 68 = .ok (.bipush (-2), 2) := by decide +kernel
theorem dX12_addPasser_70 : decode cX12_addPasser 70 = .ok (.ireturn, 1) := by decide +kernel
theorem dX12_addPasser_71 : decode cX12_addPasser 71 = .ok (.iload 5, 2) := by decide +kernel
theorem dX12_addPasser_73 : decode cX12_addPasser 73 = .ok (.bipush 12, 2) := by decide +kernel
theorem dX12_addPasser_75 : decode cX12_addPasser 75 = .ok (.if_icmp .ne 6, 3) := by decide +kernel
theorem dX12_addPasser_78 : decode cX12_addPasser 78 = .ok (.bipush (-4), 2) := by decide +kernel
theorem dX12_addPasser_80 : decode cX12_addPasser 80 = .ok (.ireturn, 1) := by decide +kernel
theorem dX12_addPasser_81 : decode cX12_addPasser 81 = .ok (.bipush 6, 2) := by decide +kernel
theorem dX12_addPasser_83 : decode cX12_addPasser 83 = .ok (.bipush 6, 2) := by decide +kernel
theorem dX12_addPasser_85 : decode cX12_addPasser 85 = .ok (.iload 5, 2) := by decide +kernel
theorem dX12_addPasser_87 : decode cX12_addPasser 87 = .ok (.imul, 1) := by decide +kernel
theorem dX12_addPasser_88 : decode cX12_addPasser 88 = .ok (.iadd, 1) := by decide +kernel
theorem dX12_addPasser_89 : decode cX12_addPasser 89 = .ok (.istore 7, 2) := by decide +kernel
theorem dX12_addPasser_91 : decode cX12_addPasser 91 = .ok (.aload_n 0, 1) := by decide +kernel
theorem dX12_addPasser_92 : decode cX12_addPasser 92 = .ok (.getfield 7, 3) := by decide +kernel
theorem dX12_addPasser_95 : decode cX12_addPasser 95 = .ok (.iload 7, 2) := by decide +kernel
theorem dX12_addPasser_97 : decode cX12_addPasser 97 = .ok (.iconst 0, 1) := by decide +kernel
theorem dX12_addPasser_98 : decode cX12_addPasser 98 = .ok (.iadd, 1) := by decide +kernel
theorem dX12_addPasser_99 : decode cX12_addPasser 99 = .ok (.iload_n 1, 1) := by decide +kernel
theorem dX12_addPasser_100 : decode cX12_addPasser 100 = .ok (.iastore, 1) := by decide +kernel
theorem dX12_addPasser_101 : decode cX12_addPasser 101 = .ok (.aload_n 0, 1) := by decide +kernel
theorem dX12_addPasser_102 : decode cX12_addPasser 102 = .ok (.getfield 7, 3) := by decide +kernel
theorem dX12_addPasser_105 : decode cX12_addPasser 105 = .ok (.iload 7, 2) := by decide +kernel
theorem dX12_addPasser_107 : decode cX12_addPasser 107 = .ok (.iconst 1, 1) := by decide +kernel
theorem dX12_addPasser_108 : decode cX12_addPasser 108 = .ok (.iadd, 1) := by decide +kernel
theorem dX12_addPasser_109 : decode cX12_addPasser 109 = .ok (.iload_n 2, 1) := by decide +kernel
theorem dX12_addPasser_110 : decode cX12_addPasser 110 = .ok (.iastore, 1) := by decide +kernel
theorem dX12_addPasser_111 : decode cX12_addPasser 111 = .ok (.aload_n 0, 1) := by decide +kernel
theorem dX12_addPasser_112 : decode cX12_addPasser 112 = .ok (.getfield 7, 3) := by decide +kernel
theorem dX12_addPasser_115 : decode cX12_addPasser 115 = .ok (.iload 7, 2) := by decide +kernel
theorem dX12_addPasser_117 : decode cX12_addPasser 117 = .ok (.iconst 2, 1) := by decide +kernel
theorem dX12_addPasser_118 : decode cX12_addPasser 118 = .ok (.iadd, 1) := by decide +kernel
theorem dX12_addPasser_119 : decode cX12_addPasser 119 = .ok (.iload_n 3, 1) := by decide +kernel
theorem dX12_addPasser_120 : decode cX12_addPasser 120 = .ok (.iastore, 1) := by decide +kernel
theorem dX12_addPasser_121 : decode cX12_addPasser 121 = .ok (.aload_n 0, 1) := by decide +kernel
theorem dX12_addPasser_122 : decode cX12_addPasser 122 = .ok (.getfield 7, 3) := by decide +kernel
theorem dX12_addPasser_125 : decode cX12_addPasser 125 = .ok (.iload 7, 2) := by decide +kernel
theorem dX12_addPasser_127 : decode cX12_addPasser 127 = .ok (.iconst 3, 1) := by decide +kernel
theorem dX12_addPasser_128 : decode cX12_addPasser 128 = .ok (.iadd, 1) := by decide +kernel
theorem dX12_addPasser_129 : decode cX12_addPasser 129 = .ok (.iload 4, 2) := by decide +kernel
theorem dX12_addPasser_131 : decode cX12_addPasser 131 = .ok (.iastore, 1) := by decide +kernel
theorem dX12_addPasser_132 : decode cX12_addPasser 132 = .ok (.aload_n 0, 1) := by decide +kernel
theorem dX12_addPasser_133 : decode cX12_addPasser 133 = .ok (.getfield 7, 3) := by decide +kernel
theorem dX12_addPasser_136 : decode cX12_addPasser 136 = .ok (.iload 7, 2) := by decide +kernel
theorem dX12_addPasser_138 : decode cX12_addPasser 138 = .ok (.iconst 4, 1) := by decide +kernel
theorem dX12_addPasser_139 : decode cX12_addPasser 139 = .ok (.iadd, 1) := by decide +kernel
theorem dX12_addPasser_140 : decode cX12_addPasser 140 = .ok (.iconst 3, 1) := by decide +kernel
theorem dX12_addPasser_141 : decode cX12_addPasser 141 = .ok (.iastore, 1) := by decide +kernel
theorem dX12_addPasser_142 : decode cX12_addPasser 142 = .ok (.aload_n 0, 1) := by decide +kernel
theorem dX12_addPasser_143 : decode cX12_addPasser 143 = .ok (.getfield 7, 3) := by decide +kernel
theorem dX12_addPasser_146 : decode cX12_addPasser 146 = .ok (.iload 7, 2) := by decide +kernel
theorem dX12_addPasser_148 : decode cX12_addPasser 148 = .ok (.iconst 5, 1) := by decide +kernel
theorem dX12_addPasser_149 : decode cX12_addPasser 149 = .ok (.iadd, 1) := by decide +kernel
theorem dX12_addPasser_150 : decode cX12_addPasser 150 = .ok (.iconst 3, 1) := by decide +kernel
theorem dX12_addPasser_151 : decode cX12_addPasser 151 = .ok (.iastore, 1) := by decide +kernel
theorem dX12_addPasser_152 : decode cX12_addPasser 152 = .ok (.aload_n 0, 1) := by decide +kernel
theorem dX12_addPasser_153 : decode cX12_addPasser 153 = .ok (.getfield 7, 3) := by decide +kernel
theorem dX12_addPasser_156 : decode cX12_addPasser 156 = .ok (.iconst 2, 1) := by decide +kernel
theorem dX12_addPasser_157 : decode cX12_addPasser 157 = .ok (.dup2, 1) := by decide +kernel
theorem dX12_addPasser_158 : decode cX12_addPasser 158 = .ok (.iaload, 1) := by decide +kernel
theorem dX12_addPasser_159 : decode cX12_addPasser 159 = .ok (.iconst 1, 1) := by decide +kernel
theorem dX12_addPasser_160 : decode cX12_addPasser 160 = .ok (.iadd, 1) := by decide +kernel
theorem dX12_addPasser_161 : decode cX12_addPasser 161 = .ok (.iastore, 1) := by decide +kernel
theorem dX12_addPasser_162 : decode cX12_addPasser 162 = .ok (.iload 5, 2) := by decide +kernel
theorem dX12_addPasser_164 : decode cX12_addPasser 164 = .ok (.ireturn, 1) := by decide +kernel
set_option maxRecDepth 20000 in
theorem ggX12_addBeast_X12_in : GoodIn wsX12_addBeast wsX12_in := goodIn_r _ [5] (by decide +kernel) (by decide +kernel)
set_option maxRecDepth 20000 in
theorem gX12_addBeast_X12_in : GoodIn wsX12_addBeast (va_wsS RX12 63 yX12_in wsX12_in) := goodIn_app (goodIn_of _ (by decide +kernel)) ggX12_addBeast_X12_in
theorem dX12_addBeast_0 : decode cX12_addBeast 0 = .ok (.iload_n 1, 1) := by decide +kernel
theorem dX12_addBeast_1 : decode cX12_addBeast 1 = .ok (.iconst 0, 1) := by decide +kernel
theorem dX12_addBeast_2 : decode cX12_addBeast 2 = .ok (.bipush 99, 2) := by decide +kernel
theorem dX12_addBeast_4 : decode cX12_addBeast 4 = .ok (.invokestatic 63, 3) := by decide +kernel
theorem dX12_addBeast_7 : decode cX12_addBeast 7 = .ok (.ifCond .eq 13, 3) := by decide +kernel
theorem dX12_addBeast_10 : decode cX12_addBeast 10 = .ok (.iload_n 2, 1) := by decide +kernel
theorem dX12_addBeast_11 : decode cX12_addBeast 11 = .ok (.iconst 0, 1) := by decide +kernel
theorem dX12_addBeast_12 : decode cX12_addBeast 12 = .ok (.bipush 30, 2) := by decide +kernel
theorem dX12_addBeast_14 : decode cX12_addBeast 14 = .ok (.invokestatic 63, 3) := by decide +kernel
theorem dX12_addBeast_17 : decode cX12_addBeast 17 = .ok (.ifCond .ne 6, 3) := by decide +kernel
theorem dX12_addBeast_20 : decode cX12_addBeast 20 = .ok (.bipush (-2), 2) := by decide +kernel
theorem dX12_addBeast_22 : decode cX12_addBeast 22 = .ok (.ireturn, 1) := by decide +kernel
theorem dX12_addBeast_23 : decode cX12_addBeast 23 = .ok (.aload_n 0, 1) := by decide +kernel
theorem dX12_addBeast_24 : decode cX12_addBeast 24 = .ok (.getfield 7, 3) := by decide +kernel
theorem dX12_addBeast_27 : decode cX12_addBeast 27 = .ok (.iconst 3, 1) := by decide +kernel
theorem dX12_addBeast_28 : decode cX12_addBeast 28 = .ok (.iaload, 1) := by decide +kernel
theorem dX12_addBeast_29 : decode cX12_addBeast 29 = .ok (.istore_n 3, 1) := by decide +kernel
theorem dX12_addBeast_30 : decode cX12_addBeast 30 = .ok (.iload_n 3, 1) := by decide +kernel
theorem dX12_addBeast_31 : decode cX12_addBeast 31 = .ok (.iconst 4, 1) := by decide +kernel
theorem dX12_addBeast_32 : decode cX12_addBeast 32 = .ok (.if_icmp .ne 6, 3) := by decide +kernel
theorem dX12_addBeast_35 : decode cX12_addBeast 35 = .ok (.bipush (-4), 2) := by decide +kernel
theorem dX12_addBeast_37 : decode cX12_addBeast 37 = .ok (.ireturn, 1) := by decide +kernel
theorem dX12_addBeast_38 : decode cX12_addBeast 38 = .ok (.aload_n 0, 1) := by decide +kernel
theorem dX12_addBeast_39 : decode cX12_addBeast 39 = .ok (.getfield 7, 3) := by decide +kernel
theorem dX12_addBeast_42 : decode cX12_addBeast 42 = .ok (.bipush 78, 2) := by decide +kernel
theorem dX12_addBeast_44 : decode cX12_addBeast 44 = .ok (.iconst 2, 1) := by decide +kernel
theorem dX12_addBeast_45 : decode cX12_addBeast 45 = .ok (.iload_n 3, 1) := by decide +kernel
theorem dX12_addBeast_46 : decode cX12_addBeast 46 = .ok (.imul, 1) := by decide +kernel
theorem dX12_addBeast_47 : decode cX12_addBeast 47 = .ok (.iadd, 1) := by decide +kernel
theorem dX12_addBeast_48 : decode cX12_addBeast 48 = .ok (.iload_n 1, 1) := by decide +kernel
theorem dX12_addBeast_49 : decode cX12_addBeast 49 = .ok (.iastore, 1) := by decide +kernel
theorem dX12_addBeast_50 : decode cX12_addBeast 50 = .ok (.aload_n 0, 1) := by decide +kernel
theorem dX12_addBeast_51 : decode cX12_addBeast 51 = .ok (.getfield 7, 3) := by decide +kernel
theorem dX12_addBeast_54 : decode cX12_addBeast 54 = .ok (.bipush 78, 2) := by decide +kernel
theorem dX12_addBeast_56 : decode cX12_addBeast 56 = .ok (.iconst 2, 1) := by decide +kernel
theorem dX12_addBeast_57 : decode cX12_addBeast 57 = .ok (.iload_n 3, 1) := by decide +kernel
theorem dX12_addBeast_58 : decode cX12_addBeast 58 = .ok (.imul, 1) := by decide +kernel
theorem dX12_addBeast_59 : decode cX12_addBeast 59 = .ok (.iadd, 1) := by decide +kernel
theorem dX12_addBeast_60 : decode cX12_addBeast 60 = .ok (.iconst 1, 1) := by decide +kernel
theorem dX12_addBeast_61 : decode cX12_addBeast 61 = .ok (.iadd, 1) := by decide +kernel
theorem dX12_addBeast_62 : decode cX12_addBeast 62 = .ok (.iload_n 2, 1) := by decide +kernel
theorem dX12_addBeast_63 : decode cX12_addBeast 63 = .ok (.iastore, 1) := by decide +kernel
theorem dX12_addBeast_64 : decode cX12_addBeast 64 = .ok (.aload_n 0, 1) := by decide +kernel
theorem dX12_addBeast_65 : decode cX12_addBeast 65 = .ok (.getfield 7, 3) := by decide +kernel
theorem dX12_addBeast_68 : decode cX12_addBeast 68 = .ok (.iconst 3, 1) := by decide +kernel
theorem dX12_addBeast_69 : decode cX12_addBeast 69 = .ok (.dup2, 1) := by decide +kernel
theorem dX12_addBeast_70 : decode cX12_addBeast 70 = .ok (.iaload, 1) := by decide +kernel
theorem dX12_addBeast_71 : decode cX12_addBeast 71 = .ok (.iconst 1, 1) := by decide +kernel
theorem dX12_addBeast_72 : decode cX12_addBeast 72 = .ok (.iadd, 1) := by decide +kernel
theorem dX12_addBeast_73 : decode cX12_addBeast 73 = .ok (.iastore, 1) := by decide +kernel
theorem dX12_addBeast_74 : decode cX12_addBeast 74 = .ok (.iload_n 3, 1) := by decide +kernel
theorem dX12_addBeast_75 : decode cX12_addBeast 75 = .ok (.ireturn, 1) := by decide +kernel
set_option maxRecDepth 20000 in
theorem ggX12_addCheck_X12_in : GoodIn wsX12_addCheck wsX12_in := goodIn_r _ [5] (by decide +kernel) (by decide +kernel)
set_option maxRecDepth 20000 in
theorem gX12_addCheck_X12_in : GoodIn wsX12_addCheck (va_wsS RX12 63 yX12_in wsX12_in) := goodIn_app (goodIn_of _ (by decide +kernel)) ggX12_addCheck_X12_in
theorem dX12_addCheck_0 : decode cX12_addCheck 0 = .ok (.aload_n 0, 1) := by decide +kernel
theorem dX12_addCheck_1 : decode cX12_addCheck 1 = .ok (.getfield 7, 3) := by decide +kernel
theorem dX12_addCheck_4 : decode cX12_addCheck 4 = .ok (.iconst 4, 1) := by decide +kernel
theorem dX12_addCheck_5 : decode cX12_addCheck 5 = .ok (.iaload, 1) := by decide +kernel
theorem dX12_addCheck_6 : decode cX12_addCheck 6 = .ok (.istore 4, 2) := by decide +kernel
theorem dX12_addCheck_8 : decode cX12_addCheck 8 = .ok (.iload 4, 2) := by decide +kernel
theorem dX12_addCheck_10 : decode cX12_addCheck 10 = .ok (.ifCond .ne 7, 3) := by decide +kernel
theorem dX12_addCheck_13 : decode cX12_addCheck 13 = .ok (.iconst 0, 1) := by decide +kernel
theorem dX12_addCheck_14 : decode cX12_addCheck 14 = .ok (.goto 19, 3) := by decide +kernel
theorem dX12_addCheck_17 : decode cX12_addCheck 17 = .ok (.aload_n 0, 1) := by decide +kernel
theorem dX12_addCheck_18 : decode cX12_addCheck 18 = .ok (.getfield 7, 3) := by decide +kernel
theorem dX12_addCheck_21 : decode cX12_addCheck 21 = .ok (.bipush 86, 2) := by decide +kernel
theorem dX12_addCheck_23 : decode cX12_addCheck 23 = .ok (.iconst 3, 1) := by decide +kernel
theorem dX12_addCheck_24 : decode cX12_addCheck 24 = .ok (.iload 4, 2) := by decide +kernel
theorem dX12_addCheck_26 : decode cX12_addCheck 26 = .ok (.imul, 1) := by decide +kernel
theorem dX12_addCheck_27 : decode cX12_addCheck 27 = .ok (.iadd, 1) := by decide +kernel
theorem dX12_addCheck_28 : decode cX12_addCheck 28 = .ok (.iconst 3, 1) := by decide +kernel
theorem dX12_addCheck_29 : decode cX12_addCheck 29 = .ok (.isub, 1) := by decide +kernel
theorem dX12_addCheck_30 : decode cX12_addCheck 30 = .ok (.iaload, 1) := by decide +kernel
theorem dX12_addCheck_31 : decode cX12_addCheck 31 = .ok (.iconst 1, 1) := by decide +kernel
theorem dX12_addCheck_32 : decode cX12_addCheck 32 = .ok (.iadd, 1) := by decide +kernel
theorem dX12_addCheck_33 : decode cX12_addCheck 33 = .ok (.istore 5, 2) := by decide +kernel
theorem dX12_addCheck_35 : decode cX12_addCheck 35 = .ok (.iload_n 1, 1) := by decide +kernel
theorem dX12_addCheck_36 : decode cX12_addCheck 36 = .ok (.iload 5, 2) := by decide +kernel
theorem dX12_addCheck_38 : decode cX12_addCheck 38 = .ok (.bipush 99, 2) := by decide +kernel
theorem dX12_addCheck_40 : decode cX12_addCheck 40 = .ok (.invokestatic 63, 3) := by decide +kernel
theorem dX12_addCheck_43 : decode cX12_addCheck 43 = .ok (.ifCond .eq 23, 3) := by decide +kernel
theorem dX12_addCheck_46 : decode cX12_addCheck 46 = .ok (.iload_n 2, 1) := by decide +kernel
theorem dX12_addCheck_47 : decode cX12_addCheck 47 = .ok (.iconst 0, 1) := by decide +kernel
theorem dX12_addCheck_48 : decode cX12_addCheck 48 = .ok (.bipush 30, 2) := by decide +kernel
theorem dX12_addCheck_50 : decode cX12_addCheck 50 = .ok (.invokestatic 63, 3) := by decide +kernel
theorem dX12_addCheck_53 : decode cX12_addCheck 53 = .ok (.ifCond .eq 13, 3) := by decide +kernel
theorem dX12_addCheck_56 : decode cX12_addCheck 56 = .ok (.iload_n 3, 1) := by decide +kernel
theorem dX12_addCheck_57 : decode cX12_addCheck 57 = .ok (.iload_n 2, 1) := by decide +kernel
theorem dX12_addCheck_58 : decode cX12_addCheck 58 = .ok (.bipush 30, 2) := by decide +kernel
theorem dX12_addCheck_60 : decode cX12_addCheck 60 = .ok (.invokestatic 63, 3) := by decide +kernel
theorem dX12_addCheck_63 : decode cX12_addCheck 63 = .ok (.ifCond .ne 6, 3) := by decide +kernel
theorem dX12_addCheck_66 : decode cX12_addCheck 66 = .ok (.bipush (-2), 2) := by decide +kernel
theorem dX12_addCheck_68 : decode cX12_addCheck 68 = .ok (.ireturn, 1) := by decide +kernel
theorem dX12_addCheck_69 : decode cX12_addCheck 69 = .ok (.iload 4, 2) := by decide +kernel
theorem dX12_addCheck_71 : decode cX12_addCheck 71 = .ok (.iconst 5, 1) := by decide +kernel
theorem dX12_addCheck_72 : decode cX12_addCheck 72 = .ok (.if_icmp .ne 6, 3) := by decide +kernel
theorem dX12_addCheck_75 : decode cX12_addCheck 75 = .ok (.bipush (-4), 2) := by decide +kernel
theorem dX12_addCheck_77 : decode cX12_addCheck 77 = .ok (.ireturn, 1) := by decide +kernel
theorem dX12_addCheck_78 : decode cX12_addCheck 78 = .ok (.aload_n 0, 1) := by decide +kernel
theorem dX12_addCheck_79 : decode cX12_addCheck 79 = .ok (.getfield 7, 3) := by decide +kernel
theorem dX12_addCheck_82 : decode cX12_addCheck 82 = .ok (.bipush 86, 2) := by decide +kernel
theorem dX12_addCheck_84 : decode cX12_addCheck 84 = .ok (.iconst 3, 1) := by decide +kernel
theorem dX12_addCheck_85 : decode cX12_addCheck 85 = .ok (.iload 4, 2) := by decide +kernel
theorem dX12_addCheck_87 : decode cX12_addCheck 87 = .ok (.imul, 1) := by decide +kernel
theorem dX12_addCheck_88 : decode cX12_addCheck 88 = .ok (.iadd, 1) := by decide +kernel
theorem dX12_addCheck_89 : decode cX12_addCheck 89 = .ok (.iload_n 1, 1) := by decide +kernel
theorem dX12_addCheck_90 : decode cX12_addCheck 90 = .ok (.iastore, 1) := by decide +kernel
theorem dX12_addCheck_91 : decode cX12_addCheck 91 = .ok (.aload_n 0, 1) := by decide +kernel
theorem dX12_addCheck_92 : decode cX12_addCheck 92 = .ok (.getfield 7, 3) := by decide +kernel
theorem dX12_addCheck_95 : decode cX12_addCheck 95 = .ok (.bipush 86, 2) := by decide +kernel
theorem dX12_addCheck_97 : decode cX12_addCheck 97 = .ok (.iconst 3, 1) := by decide +kernel
theorem dX12_addCheck_98 : decode cX12_addCheck 98 = .ok (.iload 4, 2) := by decide +kernel
theorem dX12_addCheck_100 : decode cX12_addCheck 100 = .ok (.imul, 1) := by decide +kernel
theorem dX12_addCheck_101 : decode cX12_addCheck 101 = .ok (.iadd, 1) := by decide +kernel
theorem dX12_addCheck_102 : decode cX12_addCheck 102 = .ok (.iconst 1, 1) := by decide +kernel
theorem dX12_addCheck_103 : decode cX12_addCheck 103 = .ok (.iadd, 1) := by decide +kernel
theorem dX12_addCheck_104 : decode cX12_addCheck 104 = .ok (.iload_n 2, 1) := by decide +kernel
theorem dX12_addCheck_105 : decode cX12_addCheck 105 = .ok (.iastore, 1) := by decide +kernel
theorem dX12_addCheck_106 : decode cX12_addCheck 106 = .ok (.aload_n 0, 1) := by decide +kernel
theorem dX12_addCheck_107 : decode cX12_addCheck 107 = .ok (.getfield 7, 3) := by decide +kernel
theorem dX12_addCheck_110 : decode cX12_addCheck 110 = .ok (.bipush 86, 2) := by decide +kernel
theorem dX12_addCheck_112 : decode cX12_addCheck 112 = .ok (.iconst 3, 1) := by decide +kernel
theorem dX12_addCheck_113 : decode cX12_addCheck 113 = .ok (.iload 4, 2) := by decide +kernel
theorem dX12_addCheck_115 : decode cX12_addCheck 115 = .ok (.imul, 1) := by decide +kernel
theorem dX12_addCheck_116 : decode cX12_addCheck 116 = .ok (.iadd, 1) := by decide +kernel
theorem dX12_addCheck_117 : decode cX12_addCheck 117 = .ok (.iconst 2, 1) := by decide +kernel
theorem dX12_addCheck_118 : decode cX12_addCheck 118 = .ok (.iadd, 1) := by decide +kernel
theorem dX12_addCheck_119 : decode cX12_addCheck 119 = .ok (.iload_n 3, 1) := by decide +kernel
theorem dX12_addCheck_120 : decode cX12_addCheck 120 = .ok (.iastore, 1) := by decide +kernel
theorem dX12_addCheck_121 : decode cX12_addCheck 121 = .ok (.aload_n 0, 1) := by decide +kernel
theorem dX12_addCheck_122 : decode cX12_addCheck 122 = .ok (.getfield 7, 3) := by decide +kernel
theorem dX12_addCheck_125 : decode cX12_addCheck 125 = .ok (.iconst 4, 1) := by decide +kernel
theorem dX12_addCheck_126 : decode cX12_addCheck 126 = .ok (.dup2, 1) := by decide +kernel
theorem dX12_addCheck_127 : decode cX12_addCheck 127 = .ok (.iaload, 1) := by decide +kernel
theorem dX12_addCheck_128 : decode cX12_addCheck 128 = .ok (.iconst 1, 1) := by decide +kernel
theorem dX12_addCheck_129 : decode cX12_addCheck 129 = .ok (.iadd, 1) := by decide +kernel
theorem dX12_addCheck_130 : decode cX12_addCheck 130 = .ok (.iastore, 1) := by decide +kernel
theorem dX12_addCheck_131 : decode cX12_addCheck 131 = .ok (.iload 4, 2) := by decide +kernel
theorem dX12_addCheck_133 : decode cX12_addCheck 133 = .ok (.ireturn, 1) := by decide +kernel
set_option maxRecDepth 20000 in
theorem ggX12_addLook_X12_in : GoodIn wsX12_addLook wsX12_in := goodIn_r _ [5] (by decide +kernel) (by decide +kernel)
set_option maxRecDepth 20000 in
theorem gX12_addLook_X12_in : GoodIn wsX12_addLook (va_wsS RX12 63 yX12_in wsX12_in) := goodIn_app (goodIn_of _ (by decide +kernel)) ggX12_addLook_X12_in
theorem dX12_addLook_0 : decode cX12_addLook 0 = .ok (.aload_n 0, 1) := by decide +kernel
theorem dX12_addLook_1 : decode cX12_addLook 1 = .ok (.getfield 7, 3) := by decide +kernel
theorem dX12_addLook_4 : decode cX12_addLook 4 = .ok (.iconst 5, 1) := by decide +kernel
theorem dX12_addLook_5 : decode cX12_addLook 5 = .ok (.iaload, 1) := by decide +kernel
theorem dX12_addLook_6 : decode cX12_addLook 6 = .ok (.istore_n 3, 1) := by decide +kernel
theorem dX12_addLook_7 : decode cX12_addLook 7 = .ok (.iload_n 3, 1) := by decide +kernel
theorem dX12_addLook_8 : decode cX12_addLook 8 = .ok (.ifCond .ne 7, 3) := by decide +kernel
theorem dX12_addLook_11 : decode cX12_addLook 11 = .ok (.iconst 0, 1) := by decide +kernel
theorem dX12_addLook_12 : decode cX12_addLook 12 = .ok (.goto 16, 3) := by decide +kernel
theorem dX12_addLook_15 : decode cX12_addLook 15 = .ok (.aload_n 0, 1) := by decide +kernel
theorem dX12_addLook_16 : decode cX12_addLook 16 = .ok (.getfield 7, 3) := by decide +kernel
theorem dX12_addLook_19 : decode cX12_addLook 19 = .ok (.bipush 101, 2) := by decide +kernel
theorem dX12_addLook_21 : decode cX12_addLook 21 = .ok (.iconst 2, 1) := by decide +kernel
theorem dX12_addLook_22 : decode cX12_addLook 22 = .ok (.iload_n 3, 1) := by decide +kernel
theorem dX12_addLook_23 : decode cX12_addLook 23 = .ok (.imul, 1) := by decide +kernel
theorem dX12_addLook_24 : decode cX12_addLook 24 = .ok (.iadd, 1) := by decide +kernel
theorem dX12_addLook_25 : decode cX12_addLook 25 = .ok (.iconst 2, 1) := by decide +kernel
theorem dX12_addLook_26 : decode cX12_addLook 26 = .ok (.isub, 1) := by decide +kernel
theorem dX12_addLook_27 : decode cX12_addLook 27 = .ok (.iaload, 1) := by decide +kernel
theorem dX12_addLook_28 : decode cX12_addLook 28 = .ok (.istore 4, 2) := by decide +kernel
theorem dX12_addLook_30 : decode cX12_addLook 30 = .ok (.iload_n 1, 1) := by decide +kernel
theorem dX12_addLook_31 : decode cX12_addLook 31 = .ok (.iload 4, 2) := by decide +kernel
theorem dX12_addLook_33 : decode cX12_addLook 33 = .ok (.bipush 99, 2) := by decide +kernel
theorem dX12_addLook_35 : decode cX12_addLook 35 = .ok (.invokestatic 63, 3) := by decide +kernel
theorem dX12_addLook_38 : decode cX12_addLook 38 = .ok (.ifCond .eq 13, 3) := by decide +kernel
theorem dX12_addLook_41 : decode cX12_addLook 41 = .ok (.iload_n 2, 1) := by decide +kernel
theorem dX12_addLook_42 : decode cX12_addLook 42 = .ok (.iconst 0, 1) := by decide +kernel
theorem dX12_addLook_43 : decode cX12_addLook 43 = .ok (.bipush 30, 2) := by decide +kernel
theorem dX12_addLook_45 : decode cX12_addLook 45 = .ok (.invokestatic 63, 3) := by decide +kernel
theorem dX12_addLook_48 : decode cX12_addLook 48 = .ok (.ifCond .ne 6, 3) := by decide +kernel
theorem dX12_addLook_51 : decode cX12_addLook 51 = .ok (.bipush (-2), 2) := by decide +kernel
theorem dX12_addLook_53 : decode cX12_addLook 53 = .ok (.ireturn, 1) := by decide +kernel
theorem dX12_addLook_54 : decode cX12_addLook 54 = .ok (.iload_n 3, 1) := by decide +kernel
theorem dX12_addLook_55 : decode cX12_addLook 55 = .ok (.bipush 6, 2) := by decide +kernel
theorem dX12_addLook_57 : decode cX12_addLook 57 = .ok (.if_icmp .ne 6, 3) := by decide +kernel
theorem dX12_addLook_60 : decode cX12_addLook 60 = .ok (.bipush (-4), 2) := by decide +kernel
theorem dX12_addLook_62 : decode cX12_addLook 62 = .ok (.ireturn, 1) := by decide +kernel
theorem dX12_addLook_63 : decode cX12_addLook 63 = .ok (.aload_n 0, 1) := by decide +kernel
theorem dX12_addLook_64 : decode cX12_addLook 64 = .ok (.getfield 7, 3) := by decide +kernel
theorem dX12_addLook_67 : decode cX12_addLook 67 = .ok (.bipush 101, 2) := by decide +kernel
theorem dX12_addLook_69 : decode cX12_addLook 69 = .ok (.iconst 2, 1) := by decide +kernel
theorem dX12_addLook_70 : decode cX12_addLook 70 = .ok (.iload_n 3, 1) := by decide +kernel
theorem dX12_addLook_71 : decode cX12_addLook 71 = .ok (.imul, 1) := by decide +kernel
theorem dX12_addLook_72 : decode cX12_addLook 72 = .ok (.iadd, 1) := by decide +kernel
theorem dX12_addLook_73 : decode cX12_addLook 73 = .ok (.iload_n 1, 1) := by decide +kernel
theorem dX12_addLook_74 : decode cX12_addLook 74 = .ok (.iastore, 1) := by decide +kernel
theorem dX12_addLook_75 : decode cX12_addLook 75 = .ok (.aload_n 0, 1) := by decide +kernel
theorem dX12_addLook_76 : decode cX12_addLook 76 = .ok (.getfield 7, 3) := by decide +kernel
theorem dX12_addLook_79 : decode cX12_addLook 79 = .ok (.bipush 101, 2) := by decide +kernel
theorem dX12_addLook_81 : decode cX12_addLook 81 = .ok (.iconst 2, 1) := by decide +kernel
theorem dX12_addLook_82 : decode cX12_addLook 82 = .ok (.iload_n 3, 1) := by decide +kernel
theorem dX12_addLook_83 : decode cX12_addLook 83 = .ok (.imul, 1) := by decide +kernel
theorem dX12_addLook_84 : decode cX12_addLook 84 = .ok (.iadd, 1) := by decide +kernel
theorem dX12_addLook_85 : decode cX12_addLook 85 = .ok (.iconst 1, 1) := by decide +kernel
theorem dX12_addLook_86 : decode cX12_addLook 86 = .ok (.iadd, 1) := by decide +kernel
theorem dX12_addLook_87 : decode cX12_addLook 87 = .ok (.iload_n 2, 1) := by decide +kernel
theorem dX12_addLook_88 : decode cX12_addLook 88 = .ok (.iastore, 1) := by decide +kernel
theorem dX12_addLook_89 : decode cX12_addLook 89 = .ok (.aload_n 0, 1) := by decide +kernel
theorem dX12_addLook_90 : decode cX12_addLook 90 = .ok (.getfield 7, 3) := by decide +kernel
theorem dX12_addLook_93 : decode cX12_addLook 93 = .ok (.iconst 5, 1) := by decide +kernel
theorem dX12_addLook_94 : decode cX12_addLook 94 = .ok (.dup2, 1) := by decide +kernel
theorem dX12_addLook_95 : decode cX12_addLook 95 = .ok (.iaload, 1) := by decide +kernel
theorem dX12_addLook_96 : decode cX12_addLook 96 = .ok (.iconst 1, 1) := by decide +kernel
theorem dX12_addLook_97 : decode cX12_addLook 97 = .ok (.iadd, 1) := by decide +kernel
theorem dX12_addLook_98 : decode cX12_addLook 98 = .ok (.iastore, 1) := by decide +kernel
theorem dX12_addLook_99 : decode cX12_addLook 99 = .ok (.iload_n 3, 1) := by decide +kernel
theorem dX12_addLook_100 : decode cX12_addLook 100 = .ok (.ireturn, 1) := by decide +kernel
set_option maxRecDepth 20000 in
theorem ggX12_wall_X12_setWall : GoodIn wsX12_wall wsX12_setWall := goodIn_r _ [5, 6, 7, 8, 4, 9, 23, 24, 25, 26, 27, 28, 29, 30, 31, 32, 33, 34, 35, 36, 37, 38, 39, 40, 41, 42, 43, 44, 45] (by decide +kernel) (by decide +kernel)
set_option maxRecDepth 20000 in
theorem gX12_wall_X12_setWall : GoodIn wsX12_wall (wsV RX12 71 RX12 yX12_setWall wsX12_setWall) := goodIn_app (goodIn_of _ (by decide +kernel)) ggX12_wall_X12_setWall
set_option maxRecDepth 20000 in
theorem ggX12_wall_X12_told : GoodIn wsX12_wall wsX12_told := goodIn_r _ [13, 14, 15, 16, 4, 17, 18, 19, 20, 21, 22, 23, 24, 25, 26, 27, 28, 29, 30, 31, 32, 33, 34, 35, 36, 37, 38, 39, 40, 41, 42, 43, 44, 45] (by decide +kernel) (by decide +kernel)
set_option maxRecDepth 20000 in
theorem gX12_wall_X12_told : GoodIn wsX12_wall (wsV RX12 75 RX12 yX12_told wsX12_told) := goodIn_app (goodIn_of _ (by decide +kernel)) ggX12_wall_X12_told
theorem dX12_wall_0 : decode cX12_wall 0 = .ok (.aload_n 0, 1) := by decide +kernel
theorem dX12_wall_1 : decode cX12_wall 1 = .ok (.aload_n 0, 1) := by decide +kernel
theorem dX12_wall_2 : decode cX12_wall 2 = .ok (.iload_n 1, 1) := by decide +kernel
theorem dX12_wall_3 : decode cX12_wall 3 = .ok (.invokevirtual 71, 3) := by decide +kernel
theorem dX12_wall_6 : decode cX12_wall 6 = .ok (.invokevirtual 75, 3) := by decide +kernel
theorem dX12_wall_9 : decode cX12_wall 9 = .ok (.ireturn, 1) := by decide +kernel
set_option maxRecDepth 20000 in
theorem ggX12_coach_X12_setCoach : GoodIn wsX12_coach wsX12_setCoach := goodIn_r _ [5, 6, 7, 8, 4, 9, 23, 24, 25, 26, 27, 28, 29, 30, 31, 32, 33, 34, 35, 36, 37, 38, 39, 40, 41, 42, 43, 44, 45] (by decide +kernel) (by decide +kernel)
set_option maxRecDepth 20000 in
theorem gX12_coach_X12_setCoach : GoodIn wsX12_coach (wsV RX12 78 RX12 yX12_setCoach wsX12_setCoach) := goodIn_app (goodIn_of _ (by decide +kernel)) ggX12_coach_X12_setCoach
set_option maxRecDepth 20000 in
theorem ggX12_coach_X12_told : GoodIn wsX12_coach wsX12_told := goodIn_r _ [13, 14, 15, 16, 4, 17, 18, 19, 20, 21, 22, 23, 24, 25, 26, 27, 28, 29, 30, 31, 32, 33, 34, 35, 36, 37, 38, 39, 40, 41, 42, 43, 44, 45] (by decide +kernel) (by decide +kernel)
set_option maxRecDepth 20000 in
theorem gX12_coach_X12_told : GoodIn wsX12_coach (wsV RX12 75 RX12 yX12_told wsX12_told) := goodIn_app (goodIn_of _ (by decide +kernel)) ggX12_coach_X12_told
theorem dX12_coach_0 : decode cX12_coach 0 = .ok (.aload_n 0, 1) := by decide +kernel
theorem dX12_coach_1 : decode cX12_coach 1 = .ok (.aload_n 0, 1) := by decide +kernel
theorem dX12_coach_2 : decode cX12_coach 2 = .ok (.iload_n 1, 1) := by decide +kernel
theorem dX12_coach_3 : decode cX12_coach 3 = .ok (.invokevirtual 78, 3) := by decide +kernel
theorem dX12_coach_6 : decode cX12_coach 6 = .ok (.invokevirtual 75, 3) := by decide +kernel
theorem dX12_coach_9 : decode cX12_coach 9 = .ok (.ireturn, 1) := by decide +kernel
set_option maxRecDepth 20000 in
theorem ggX12_passer_X12_addPasser : GoodIn wsX12_passer wsX12_addPasser := goodIn_r _ [5, 6, 7, 8, 9, 4, 10, 11, 12, 13, 27, 28, 29, 30, 31, 32, 33, 34, 35, 36, 37, 38, 39, 40, 41, 42, 43, 44, 45, 46, 47, 48, 49] (by decide +kernel) (by decide +kernel)
set_option maxRecDepth 20000 in
theorem gX12_passer_X12_addPasser : GoodIn wsX12_passer (wsV RX12 81 RX12 yX12_addPasser wsX12_addPasser) := goodIn_app (goodIn_of _ (by decide +kernel)) ggX12_passer_X12_addPasser
set_option maxRecDepth 20000 in
theorem ggX12_passer_X12_told : GoodIn wsX12_passer wsX12_told := goodIn_r _ [17, 18, 19, 20, 4, 21, 22, 23, 24, 25, 26, 27, 28, 29, 30, 31, 32, 33, 34, 35, 36, 37, 38, 39, 40, 41, 42, 43, 44, 45, 46, 47, 48, 49] (by decide +kernel) (by decide +kernel)
set_option maxRecDepth 20000 in
theorem gX12_passer_X12_told : GoodIn wsX12_passer (wsV RX12 75 RX12 yX12_told wsX12_told) := goodIn_app (goodIn_of _ (by decide +kernel)) ggX12_passer_X12_told
theorem dX12_passer_0 : decode cX12_passer 0 = .ok (.aload_n 0, 1) := by decide +kernel
theorem dX12_passer_1 : decode cX12_passer 1 = .ok (.aload_n 0, 1) := by decide +kernel
theorem dX12_passer_2 : decode cX12_passer 2 = .ok (.iload_n 1, 1) := by decide +kernel
theorem dX12_passer_3 : decode cX12_passer 3 = .ok (.iload_n 2, 1) := by decide +kernel
theorem dX12_passer_4 : decode cX12_passer 4 = .ok (.iload_n 3, 1) := by decide +kernel
theorem dX12_passer_5 : decode cX12_passer 5 = .ok (.iload 4, 2) := by decide +kernel
theorem dX12_passer_7 : decode cX12_passer 7 = .ok (.invokevirtual 81, 3) := by decide +kernel
theorem dX12_passer_10 : decode cX12_passer 10 = .ok (.invokevirtual 75, 3) := by decide +kernel
theorem dX12_passer_13 : decode cX12_passer 13 = .ok (.ireturn, 1) := by decide +kernel
set_option maxRecDepth 20000 in
theorem ggX12_undo_X12_no : GoodIn wsX12_undo wsX12_no := goodIn_r _ [6, 7, 8, 9, 10, 11, 12, 13, 14, 15, 16, 17, 18, 19, 20, 21, 22, 23, 24, 25, 26, 27, 28, 29, 30] (by decide +kernel) (by decide +kernel)
set_option maxRecDepth 20000 in
theorem gX12_undo_X12_no : GoodIn wsX12_undo (wsV RX12 85 RX12 yX12_no wsX12_no) := goodIn_app (goodIn_of _ (by decide +kernel)) ggX12_undo_X12_no
theorem dX12_undo_0 : decode cX12_undo 0 = .ok (.aload_n 0, 1) := by decide +kernel
theorem dX12_undo_1 : decode cX12_undo 1 = .ok (.getfield 7, 3) := by decide +kernel
theorem dX12_undo_4 : decode cX12_undo 4 = .ok (.iconst 2, 1) := by decide +kernel
theorem dX12_undo_5 : decode cX12_undo 5 = .ok (.iaload, 1) := by decide +kernel
theorem dX12_undo_6 : decode cX12_undo 6 = .ok (.ifCond .ne 8, 3) := by decide +kernel
theorem dX12_undo_9 : decode cX12_undo 9 = .ok (.aload_n 0, 1) := by decide +kernel
theorem dX12_undo_10 : decode cX12_undo 10 = .ok (.invokevirtual 85, 3) := by decide +kernel
theorem dX12_undo_13 : decode cX12_undo 13 = .ok (.ireturn, 1) := by decide +kernel
theorem dX12_undo_14 : decode cX12_undo 14 = .ok (.aload_n 0, 1) := by decide +kernel
theorem dX12_undo_15 : decode cX12_undo 15 = .ok (.getfield 7, 3) := by decide +kernel
theorem dX12_undo_18 : decode cX12_undo 18 = .ok (.iconst 2, 1) := by decide +kernel
theorem dX12_undo_19 : decode cX12_undo 19 = .ok (.dup2, 1) := by decide +kernel
theorem dX12_undo_20 : decode cX12_undo 20 = .ok (.iaload, 1) := by decide +kernel
theorem dX12_undo_21 : decode cX12_undo 21 = .ok (.iconst 1, 1) := by decide +kernel
theorem dX12_undo_22 : decode cX12_undo 22 = .ok (.isub, 1) := by decide +kernel
theorem dX12_undo_23 : decode cX12_undo 23 = .ok (.iastore, 1) := by decide +kernel
theorem dX12_undo_24 : decode cX12_undo 24 = .ok (.aload_n 0, 1) := by decide +kernel
theorem dX12_undo_25 : decode cX12_undo 25 = .ok (.getfield 7, 3) := by decide +kernel
theorem dX12_undo_28 : decode cX12_undo 28 = .ok (.iconst 2, 1) := by decide +kernel
theorem dX12_undo_29 : decode cX12_undo 29 = .ok (.iaload, 1) := by decide +kernel
theorem dX12_undo_30 : decode cX12_undo 30 = .ok (.ireturn, 1) := by decide +kernel
set_option maxRecDepth 20000 in
theorem ggX12_beast_X12_addBeast : GoodIn wsX12_beast wsX12_addBeast := goodIn_r _ [5, 6, 7, 8, 4, 9, 23, 24, 25, 26, 27, 28, 29, 30, 31, 32, 33, 34, 35, 36, 37, 38, 39, 40, 41, 42, 43, 44, 45] (by decide +kernel) (by decide +kernel)
set_option maxRecDepth 20000 in
theorem gX12_beast_X12_addBeast : GoodIn wsX12_beast (wsV RX12 88 RX12 yX12_addBeast wsX12_addBeast) := goodIn_app (goodIn_of _ (by decide +kernel)) ggX12_beast_X12_addBeast
set_option maxRecDepth 20000 in
theorem ggX12_beast_X12_told : GoodIn wsX12_beast wsX12_told := goodIn_r _ [13, 14, 15, 16, 4, 17, 18, 19, 20, 21, 22, 23, 24, 25, 26, 27, 28, 29, 30, 31, 32, 33, 34, 35, 36, 37, 38, 39, 40, 41, 42, 43, 44, 45] (by decide +kernel) (by decide +kernel)
set_option maxRecDepth 20000 in
theorem gX12_beast_X12_told : GoodIn wsX12_beast (wsV RX12 75 RX12 yX12_told wsX12_told) := goodIn_app (goodIn_of _ (by decide +kernel)) ggX12_beast_X12_told
theorem dX12_beast_0 : decode cX12_beast 0 = .ok (.aload_n 0, 1) := by decide +kernel
theorem dX12_beast_1 : decode cX12_beast 1 = .ok (.aload_n 0, 1) := by decide +kernel
theorem dX12_beast_2 : decode cX12_beast 2 = .ok (.iload_n 1, 1) := by decide +kernel
theorem dX12_beast_3 : decode cX12_beast 3 = .ok (.iload_n 2, 1) := by decide +kernel
theorem dX12_beast_4 : decode cX12_beast 4 = .ok (.invokevirtual 88, 3) := by decide +kernel
theorem dX12_beast_7 : decode cX12_beast 7 = .ok (.invokevirtual 75, 3) := by decide +kernel
theorem dX12_beast_10 : decode cX12_beast 10 = .ok (.ireturn, 1) := by decide +kernel
set_option maxRecDepth 20000 in
theorem ggX12_odds_X12_isPasser : GoodIn wsX12_odds wsX12_isPasser := goodIn_r _ [6, 1, 7, 8, 5, 9, 15, 16, 17, 18, 19, 20, 21, 22, 23, 24, 25, 26, 27, 28, 29, 30, 31, 32, 33, 34, 35, 36, 37] (by decide +kernel) (by decide +kernel)
set_option maxRecDepth 20000 in
theorem gX12_odds_X12_isPasser : GoodIn wsX12_odds (wsV RX12 91 RX12 yX12_isPasser wsX12_isPasser) := goodIn_app (goodIn_of _ (by decide +kernel)) ggX12_odds_X12_isPasser
set_option maxRecDepth 20000 in
theorem ggX12_odds_X12_in : GoodIn wsX12_odds wsX12_in := goodIn_r _ [9] (by decide +kernel) (by decide +kernel)
set_option maxRecDepth 20000 in
theorem gX12_odds_X12_in : GoodIn wsX12_odds (va_wsS RX12 63 yX12_in wsX12_in) := goodIn_app (goodIn_of _ (by decide +kernel)) ggX12_odds_X12_in
set_option maxRecDepth 20000 in
theorem ggX12_odds_X12_bad : GoodIn wsX12_odds wsX12_bad := goodIn_r _ [13, 14, 15, 16, 17, 18, 19, 20, 21, 22, 23, 24, 25, 26, 27, 28, 29, 30, 31, 32, 33, 34, 35, 36, 37] (by decide +kernel) (by decide +kernel)
set_option maxRecDepth 20000 in
theorem gX12_odds_X12_bad : GoodIn wsX12_odds (wsV RX12 56 RX12 yX12_bad wsX12_bad) := goodIn_app (goodIn_of _ (by decide +kernel)) ggX12_odds_X12_bad
theorem dX12_odds_0 : decode cX12_odds 0 = .ok (.aload_n 0, 1) := by decide +kernel
theorem dX12_odds_1 : decode cX12_odds 1 = .ok (.iload_n 1, 1) := by decide +kernel
theorem dX12_odds_2 : decode cX12_odds 2 = .ok (.invokevirtual 91, 3) := by decide +kernel
theorem dX12_odds_5 : decode cX12_odds 5 = .ok (.ifCond .eq 25, 3) := by decide +kernel
theorem dX12_odds_8 : decode cX12_odds 8 = .ok (.iload_n 2, 1) := by decide +kernel
theorem dX12_odds_9 : decode cX12_odds 9 = .ok (.iconst 0, 1) := by decide +kernel
theorem dX12_odds_10 : decode cX12_odds 10 = .ok (.bipush 10, 2) := by decide +kernel
theorem dX12_odds_12 : decode cX12_odds 12 = .ok (.invokestatic 63, 3) := by decide +kernel
theorem dX12_odds_15 : decode cX12_odds 15 = .ok (.ifCond .eq 15, 3) := by decide +kernel
theorem dX12_odds_18 : decode cX12_odds 18 = .ok (.iload_n 3, 1) := by decide +kernel
theorem dX12_odds_19 : decode cX12_odds 19 = .ok (.iconst 0, 1) := by decide +kernel
theorem dX12_odds_20 : decode cX12_odds 20 = .ok (.bipush 10, 2) := by decide +kernel
theorem dX12_odds_22 : decode cX12_odds 22 = .ok (.iload_n 2, 1) := by decide +kernel
theorem dX12_odds_23 : decode cX12_odds 23 = .ok (.isub, 1) := by decide +kernel
theorem dX12_odds_24 : decode cX12_odds 24 = .ok (.invokestatic 63, 3) := by decide +kernel
theorem dX12_odds_27 : decode cX12_odds 27 = .ok (.ifCond .ne 8, 3) := by decide +kernel
theorem dX12_odds_30 : decode cX12_odds 30 = .ok (.aload_n 0, 1) := by decide +kernel
theorem dX12_odds_31 : decode cX12_odds 31 = .ok (.invokevirtual 56, 3) := by decide +kernel
theorem dX12_odds_34 : decode cX12_odds 34 = .ok (.ireturn, 1) := by decide +kernel
theorem dX12_odds_35 : decode cX12_odds 35 = .ok (.aload_n 0, 1) := by decide +kernel
theorem dX12_odds_36 : decode cX12_odds 36 = .ok (.getfield 7, 3) := by decide +kernel
theorem dX12_odds_39 : decode cX12_odds 39 = .ok (.bipush 6, 2) := by decide +kernel
theorem dX12_odds_41 : decode cX12_odds 41 = .ok (.bipush 6, 2) := by decide +kernel
theorem dX12_odds_43 : decode cX12_odds 43 = .ok (.iload_n 1, 1) := by decide +kernel
theorem dX12_odds_44 : decode cX12_odds 44 = .ok (.imul, 1) := by decide +kernel
theorem dX12_odds_45 : decode cX12_odds 45 = .ok (.iadd, 1) := by decide +kernel
theorem dX12_odds_46 : decode cX12_odds 46 = .ok (.iconst 4, 1) := by decide +kernel
theorem dX12_odds_47 : decode cX12_odds 47 = .ok (.iadd, 1) := by decide +kernel
theorem dX12_odds_48 : decode cX12_odds 48 = .ok (.iload_n 2, 1) := by decide +kernel
theorem dX12_odds_49 : decode cX12_odds 49 = .ok (.iastore, 1) := by decide +kernel
theorem dX12_odds_50 : decode cX12_odds 50 = .ok (.aload_n 0, 1) := by decide +kernel
theorem dX12_odds_51 : decode cX12_odds 51 = .ok (.getfield 7, 3) := by decide +kernel
theorem dX12_odds_54 : decode cX12_odds 54 = .ok (.bipush 6, 2) := by decide +kernel
theorem dX12_odds_56 : decode cX12_odds 56 = .ok (.bipush 6, 2) := by decide +kernel
theorem dX12_odds_58 : decode cX12_odds 58 = .ok (.iload_n 1, 1) := by decide +kernel
theorem dX12_odds_59 : decode cX12_odds 59 = .ok (.imul, 1) := by decide +kernel
theorem dX12_odds_60 : decode cX12_odds 60 = .ok (.iadd, 1) := by decide +kernel
theorem dX12_odds_61 : decode cX12_odds 61 = .ok (.iconst 5, 1) := by decide +kernel
theorem dX12_odds_62 : decode cX12_odds 62 = .ok (.iadd, 1) := by decide +kernel
theorem dX12_odds_63 : decode cX12_odds 63 = .ok (.iload_n 3, 1) := by decide +kernel
theorem dX12_odds_64 : decode cX12_odds 64 = .ok (.iastore, 1) := by decide +kernel
theorem dX12_odds_65 : decode cX12_odds 65 = .ok (.iconst 1, 1) := by decide +kernel
theorem dX12_odds_66 : decode cX12_odds 66 = .ok (.ireturn, 1) := by decide +kernel
set_option maxRecDepth 20000 in
theorem ggX12_type_X12_in : GoodIn wsX12_type wsX12_in := goodIn_r _ [7] (by decide +kernel) (by decide +kernel)
set_option maxRecDepth 20000 in
theorem gX12_type_X12_in : GoodIn wsX12_type (va_wsS RX12 63 yX12_in wsX12_in) := goodIn_app (goodIn_of _ (by decide +kernel)) ggX12_type_X12_in
set_option maxRecDepth 20000 in
theorem ggX12_type_X12_bad : GoodIn wsX12_type wsX12_bad := goodIn_r _ [11, 12, 17, 18, 19, 20, 21, 22, 23, 24, 25, 26, 27, 28, 29, 30, 31, 32, 33, 34, 35, 36, 37, 38, 39] (by decide +kernel) (by decide +kernel)
set_option maxRecDepth 20000 in
theorem gX12_type_X12_bad : GoodIn wsX12_type (wsV RX12 56 RX12 yX12_bad wsX12_bad) := goodIn_app (goodIn_of _ (by decide +kernel)) ggX12_type_X12_bad
set_option maxRecDepth 20000 in
theorem ggX12_type_X12_full : GoodIn wsX12_type wsX12_full := goodIn_r _ [16, 12, 17, 18, 19, 20, 21, 22, 23, 24, 25, 26, 27, 28, 29, 30, 31, 32, 33, 34, 35, 36, 37, 38, 39] (by decide +kernel) (by decide +kernel)
set_option maxRecDepth 20000 in
theorem gX12_type_X12_full : GoodIn wsX12_type (wsV RX12 60 RX12 yX12_full wsX12_full) := goodIn_app (goodIn_of _ (by decide +kernel)) ggX12_type_X12_full
theorem dX12_type_0 : decode cX12_type 0 = .ok (.iload_n 3, 1) := by decide +kernel
theorem dX12_type_1 : decode cX12_type 1 = .ok (.iconst 1, 1) := by decide +kernel
theorem dX12_type_2 : decode cX12_type 2 = .ok (.bipush 8, 2) := by decide +kernel
theorem dX12_type_4 : decode cX12_type 4 = .ok (.invokestatic 63, 3) := by decide +kernel
theorem dX12_type_7 : decode cX12_type 7 = .ok (.ifCond .ne 8, 3) := by decide +kernel
theorem dX12_type_10 : decode cX12_type 10 = .ok (.aload_n 0, 1) := by decide +kernel
theorem dX12_type_11 : decode cX12_type 11 = .ok (.invokevirtual 56, 3) := by decide +kernel
theorem dX12_type_14 : decode cX12_type 14 = .ok (.ireturn, 1) := by decide +kernel
theorem dX12_type_15 : decode cX12_type 15 = .ok (.aload_n 0, 1) := by decide +kernel
theorem dX12_type_16 : decode cX12_type 16 = .ok (.getfield 95, 3) := by decide +kernel
theorem dX12_type_19 : decode cX12_type 19 = .ok (.iload_n 3, 1) := by decide +kernel
theorem dX12_type_20 : decode cX12_type 20 = .ok (.iadd, 1) := by decide +kernel
theorem dX12_type_21 : decode cX12_type 21 = .ok (.sipush 200, 3) := by decide +kernel
theorem dX12_type_24 : decode cX12_type 24 = .ok (.if_icmp .le 8, 3) := by decide +kernel
theorem dX12_type_27 : decode cX12_type 27 = .ok (.aload_n 0, 1) := by decide +kernel
theorem dX12_type_28 : decode cX12_type 28 = .ok (.invokevirtual 60, 3) := by decide +kernel
theorem dX12_type_31 : decode cX12_type 31 = .ok (.ireturn, 1) := by decide +kernel
theorem dX12_type_32 : decode cX12_type 32 = .ok (.iload_n 3, 1) := by decide +kernel
theorem dX12_type_33 : decode cX12_type 33 = .ok (.iconst 1, 1) := by decide +kernel
theorem dX12_type_34 : decode cX12_type 34 = .ok (.isub, 1) := by decide +kernel
theorem dX12_type_35 : decode cX12_type 35 = .ok (.istore 4, 2) := by decide +kernel
theorem dX12_type_37 : decode cX12_type 37 = .ok (.iload 4, 2) := by decide +kernel
theorem dX12_type_39 : decode cX12_type 39 = .ok (.ifCond .lt 41, 3) := by decide +kernel
theorem dX12_type_42 : decode cX12_type 42 = .ok (.aload_n 0, 1) := by decide +kernel
theorem dX12_type_43 : decode cX12_type 43 = .ok (.getfield 20, 3) := by decide +kernel
theorem dX12_type_46 : decode cX12_type 46 = .ok (.aload_n 0, 1) := by decide +kernel
theorem dX12_type_47 : decode cX12_type 47 = .ok (.getfield 95, 3) := by decide +kernel
theorem dX12_type_50 : decode cX12_type 50 = .ok (.lload_n 1, 1) := by decide +kernel
theorem dX12_type_51 : decode cX12_type 51 = .ok (.bipush 8, 2) := by decide +kernel
theorem dX12_type_53 : decode cX12_type 53 = .ok (.iload 4, 2) := by decide +kernel
theorem dX12_type_55 : decode cX12_type 55 = .ok (.imul, 1) := by decide +kernel
theorem dX12_type_56 : decode cX12_type 56 = .ok (.lshr, 1) := by decide +kernel
theorem dX12_type_57 : decode cX12_type 57 = .ok (.ldc2_w 99, 3) := by decide +kernel
theorem dX12_type_60 : decode cX12_type 60 = .ok (.land, 1) := by decide +kernel
theorem dX12_type_61 : decode cX12_type 61 = .ok (.l2i, 1) := by decide +kernel
theorem dX12_type_62 : decode cX12_type 62 = .ok (.i2b, 1) := by decide +kernel
theorem dX12_type_63 : decode cX12_type 63 = .ok (.bastore, 1) := by decide +kernel
theorem dX12_type_64 : decode cX12_type 64 = .ok (.aload_n 0, 1) := by decide +kernel
theorem dX12_type_65 : decode cX12_type 65 = .ok (.dup, 1) := by decide +kernel
theorem dX12_type_66 : decode cX12_type 66 = .ok (.getfield 95, 3) := by decide +kernel
theorem dX12_type_69 : decode cX12_type 69 = .ok (.iconst 1, 1) := by decide +kernel
theorem dX12_type_70 : decode cX12_type 70 = .ok (.iadd, 1) := by decide +kernel
theorem dX12_type_71 : decode cX12_type 71 = .ok (.putfield 95, 3) := by decide +kernel
theorem dX12_type_74 : decode cX12_type 74 = .ok (.iinc 4 (-1), 3) := by decide +kernel
theorem dX12_type_77 : decode cX12_type 77 = .ok (.goto (-40), 3) := by decide +kernel
theorem dX12_type_80 : decode cX12_type 80 = .ok (.aload_n 0, 1) := by decide +kernel
theorem dX12_type_81 : decode cX12_type 81 = .ok (.getfield 95, 3) := by decide +kernel
theorem dX12_type_84 : decode cX12_type 84 = .ok (.ireturn, 1) := by decide +kernel
theorem dX12_clear_0 : decode cX12_clear 0 = .ok (.aload_n 0, 1) := by decide +kernel
theorem dX12_clear_1 : decode cX12_clear 1 = .ok (.getfield 95, 3) := by decide +kernel
theorem dX12_clear_4 : decode cX12_clear 4 = .ok (.istore_n 1, 1) := by decide +kernel
theorem dX12_clear_5 : decode cX12_clear 5 = .ok (.aload_n 0, 1) := by decide +kernel
theorem dX12_clear_6 : decode cX12_clear 6 = .ok (.iconst 0, 1) := by decide +kernel
theorem dX12_clear_7 : decode cX12_clear 7 = .ok (.putfield 95, 3) := by decide +kernel
theorem dX12_clear_10 : decode cX12_clear 10 = .ok (.iload_n 1, 1) := by decide +kernel
theorem dX12_clear_11 : decode cX12_clear 11 = .ok (.ireturn, 1) := by decide +kernel
theorem dX12_here_0 : decode cX12_here 0 = .ok (.aload_n 0, 1) := by decide +kernel
theorem dX12_here_1 : decode cX12_here 1 = .ok (.getfield 101, 3) := by decide +kernel
theorem dX12_here_4 : decode cX12_here 4 = .ok (.aload_n 0, 1) := by decide +kernel
theorem dX12_here_5 : decode cX12_here 5 = .ok (.getfield 95, 3) := by decide +kernel
theorem dX12_here_8 : decode cX12_here 8 = .ok (.if_icmp .ge 19, 3) := by decide +kernel
theorem dX12_here_11 : decode cX12_here 11 = .ok (.aload_n 0, 1) := by decide +kernel
theorem dX12_here_12 : decode cX12_here 12 = .ok (.getfield 20, 3) := by decide +kernel
theorem dX12_here_15 : decode cX12_here 15 = .ok (.aload_n 0, 1) := by decide +kernel
theorem dX12_here_16 : decode cX12_here 16 = .ok (.getfield 101, 3) := by decide +kernel
theorem dX12_here_19 : decode cX12_here 19 = .ok (.baload, 1) := by decide +kernel
theorem dX12_here_20 : decode cX12_here 20 = .ok (.sipush 255, 3) := by decide +kernel
theorem dX12_here_23 : decode cX12_here 23 = .ok (.iand, 1) := by decide +kernel
theorem dX12_here_24 : decode cX12_here 24 = .ok (.goto 4, 3) := by decide +kernel
theorem dX12_here_27 : decode cX12_here 27 = .ok (.iconst (-1), 1) := by decide +kernel
theorem dX12_here_28 : decode cX12_here 28 = .ok (.ireturn, 1) := by decide +kernel
theorem dX12_meaning_0 : decode cX12_meaning 0 = .ok (.iload_n 0, 1) := by decide +kernel
theorem dX12_meaning_1 : decode cX12_meaning 1 = .ok (.lookupswitch 71 #[(247547, 67), (453774, 59), (1162559, 63), (1755524, 65), (1890386, 69), (230501934, 61)], 59) := by decide +kernel
theorem dX12_meaning_60 : decode cX12_meaning 60 = .ok (.iconst 0, 1) := by decide +kernel
theorem dX12_meaning_61 : decode cX12_meaning 61 = .ok (.ireturn, 1) := by decide +kernel
theorem dX12_meaning_62 : decode cX12_meaning 62 = .ok (.iconst 1, 1) := by decide +kernel
theorem dX12_meaning_63 : decode cX12_meaning 63 = .ok (.ireturn, 1) := by decide +kernel
theorem dX12_meaning_64 : decode cX12_meaning 64 = .ok (.iconst 2, 1) := by decide +kernel
theorem dX12_meaning_65 : decode cX12_meaning 65 = .ok (.ireturn, 1) := by decide +kernel
theorem dX12_meaning_66 : decode cX12_meaning 66 = .ok (.iconst 3, 1) := by decide +kernel
theorem dX12_meaning_67 : decode cX12_meaning 67 = .ok (.ireturn, 1) := by decide +kernel
theorem dX12_meaning_68 : decode cX12_meaning 68 = .ok (.iconst 4, 1) := by decide +kernel
theorem dX12_meaning_69 : decode cX12_meaning 69 = .ok (.ireturn, 1) := by decide +kernel
theorem dX12_meaning_70 : decode cX12_meaning 70 = .ok (.iconst 5, 1) := by decide +kernel
theorem dX12_meaning_71 : decode cX12_meaning 71 = .ok (.ireturn, 1) := by decide +kernel
theorem dX12_meaning_72 : decode cX12_meaning 72 = .ok (.bipush 9, 2) := by decide +kernel
theorem dX12_meaning_74 : decode cX12_meaning 74 = .ok (.ireturn, 1) := by decide +kernel
set_option maxRecDepth 20000 in
theorem ggX12_next_X12_here : GoodIn wsX12_next wsX12_here := goodIn_r _ [9, 1, 10, 11, 18, 19, 20, 21, 22, 23, 24, 25, 26, 27, 28, 29, 30, 31, 32, 33, 34, 35, 36, 37, 38, 39, 40] (by decide +kernel) (by decide +kernel)
set_option maxRecDepth 20000 in
theorem gX12_next_X12_here : GoodIn wsX12_next (wsV RX12 104 RX12 yX12_here wsX12_here) := goodIn_app (goodIn_of _ (by decide +kernel)) ggX12_next_X12_here
set_option maxRecDepth 20000 in
theorem ggX12_next_X12_in : GoodIn wsX12_next wsX12_in := goodIn_r _ [14] (by decide +kernel) (by decide +kernel)
set_option maxRecDepth 20000 in
theorem gX12_next_X12_in : GoodIn wsX12_next (va_wsS RX12 63 yX12_in wsX12_in) := goodIn_app (goodIn_of _ (by decide +kernel)) ggX12_next_X12_in
set_option maxRecDepth 20000 in
theorem ggX12_next_X12_meaning : GoodIn wsX12_next wsX12_meaning := goodIn_r _ [17] (by decide +kernel) (by decide +kernel)
set_option maxRecDepth 20000 in
theorem gX12_next_X12_meaning : GoodIn wsX12_next (va_wsS RX12 116 yX12_meaning wsX12_meaning) := goodIn_app (goodIn_of _ (by decide +kernel)) ggX12_next_X12_meaning
theorem dX12_next_0 : decode cX12_next 0 = .ok (.aload_n 0, 1) := by decide +kernel
theorem dX12_next_1 : decode cX12_next 1 = .ok (.invokevirtual 104, 3) := by decide +kernel
theorem dX12_next_4 : decode cX12_next 4 = .ok (.bipush 32, 2) := by decide +kernel
theorem dX12_next_6 : decode cX12_next 6 = .ok (.if_icmp .ne 16, 3) := by decide +kernel
theorem dX12_next_9 : decode cX12_next 9 = .ok (.aload_n 0, 1) := by decide +kernel
theorem dX12_next_10 : decode cX12_next 10 = .ok (.dup, 1) := by decide +kernel
theorem dX12_next_11 : decode cX12_next 11 = .ok (.getfield 101, 3) := by decide +kernel
theorem dX12_next_14 : decode cX12_next 14 = .ok (.iconst 1, 1) := by decide +kernel
theorem dX12_next_15 : decode cX12_next 15 = .ok (.iadd, 1) := by decide +kernel
theorem dX12_next_16 : decode cX12_next 16 = .ok (.putfield 101, 3) := by decide +kernel
theorem dX12_next_19 : decode cX12_next 19 = .ok (.goto (-19), 3) := by decide +kernel
theorem dX12_next_22 : decode cX12_next 22 = .ok (.aload_n 0, 1) := by decide +kernel
theorem dX12_next_23 : decode cX12_next 23 = .ok (.aload_n 0, 1) := by decide +kernel
theorem dX12_next_24 : decode cX12_next 24 = .ok (.getfield 101, 3) := by decide +kernel
theorem dX12_next_27 : decode cX12_next 27 = .ok (.putfield 107, 3) := by decide +kernel
theorem dX12_next_30 : decode cX12_next 30 = .ok (.aload_n 0, 1) := by decide +kernel
theorem dX12_next_31 : decode cX12_next 31 = .ok (.iconst 0, 1) := by decide +kernel
theorem dX12_next_32 : decode cX12_next 32 = .ok (.putfield 110, 3) := by decide +kernel
theorem dX12_next_35 : decode cX12_next 35 = .ok (.aload_n 0, 1) := by decide +kernel
theorem dX12_next_36 : decode cX12_next 36 = .ok (.invokevirtual 104, 3) := by decide +kernel
theorem dX12_next_39 : decode cX12_next 39 = .ok (.istore_n 1, 1) := by decide +kernel
theorem dX12_next_40 : decode cX12_next 40 = .ok (.iload_n 1, 1) := by decide +kernel
theorem dX12_next_41 : decode cX12_next 41 = .ok (.ifCond .ge 12, 3) := by decide +kernel
theorem dX12_next_44 : decode cX12_next 44 = .ok (.aload_n 0, 1) := by decide +kernel
theorem dX12_next_45 : decode cX12_next 45 = .ok (.bipush 8, 2) := by decide +kernel
theorem dX12_next_47 : decode cX12_next 47 = .ok (.putfield 113, 3) := by decide +kernel
theorem dX12_next_50 : decode cX12_next 50 = .ok (.goto 231, 3) := by decide +kernel
theorem dX12_next_53 : decode cX12_next 53 = .ok (.iload_n 1, 1) := by decide +kernel
theorem dX12_next_54 : decode cX12_next 54 = .ok (.bipush 97, 2) := by decide +kernel
theorem dX12_next_56 : decode cX12_next 56 = .ok (.bipush 122, 2) := by decide +kernel
theorem dX12_next_58 : decode cX12_next 58 = .ok (.invokestatic 63, 3) := by decide +kernel
theorem dX12_next_61 : decode cX12_next 61 = .ok (.ifCond .eq 92, 3) := by decide +kernel
theorem dX12_next_64 : decode cX12_next 64 = .ok (.iconst 0, 1) := by decide +kernel
theorem dX12_next_65 : decode cX12_next 65 = .ok (.istore_n 2, 1) := by decide +kernel
theorem dX12_next_66 : decode cX12_next 66 = .ok (.aload_n 0, 1) := by decide +kernel
theorem dX12_next_67 : decode cX12_next 67 = .ok (.invokevirtual 104, 3) := by decide +kernel
theorem dX12_next_70 : decode cX12_next 70 = .ok (.bipush 97, 2) := by decide +kernel
theorem dX12_next_72 : decode cX12_next 72 = .ok (.bipush 122, 2) := by decide +kernel
theorem dX12_next_74 : decode cX12_next 74 = .ok (.invokestatic 63, 3) := by decide +kernel
theorem dX12_next_77 : decode cX12_next 77 = .ok (.ifCond .eq 47, 3) := by decide +kernel
theorem dX12_next_80 : decode cX12_next 80 = .ok (.aload_n 0, 1) := by decide +kernel
theorem dX12_next_81 : decode cX12_next 81 = .ok (.getfield 101, 3) := by decide +kernel
theorem dX12_next_84 : decode cX12_next 84 = .ok (.aload_n 0, 1) := by decide +kernel
theorem dX12_next_85 : decode cX12_next 85 = .ok (.getfield 107, 3) := by decide +kernel
theorem dX12_next_88 : decode cX12_next 88 = .ok (.isub, 1) := by decide +kernel
theorem dX12_next_89 : decode cX12_next 89 = .ok (.bipush 6, 2) := by decide +kernel
theorem dX12_next_91 : decode cX12_next 91 = .ok (.if_icmp .ge 18, 3) := by decide +kernel
theorem dX12_next_94 : decode cX12_next 94 = .ok (.bipush 27, 2) := by decide +kernel
theorem dX12_next_96 : decode cX12_next 96 = .ok (.iload_n 2, 1) := by decide +kernel
theorem dX12_next_97 : decode cX12_next 97 = .ok (.imul, 1) := by decide +kernel
theorem dX12_next_98 : decode cX12_next 98 = .ok (.aload_n 0, 1) := by decide +kernel
theorem dX12_next_99 : decode cX12_next 99 = .ok (.invokevirtual 104, 3) := by decide +kernel
theorem dX12_next_102 : decode cX12_next 102 = .ok (.iadd, 1) := by decide +kernel
theorem dX12_next_103 : decode cX12_next 103 = .ok (.bipush 96, 2) := by decide +kernel
theorem dX12_next_105 : decode cX12_next 105 = .ok (.isub, 1) := by decide +kernel
theorem dX12_next_106 : decode cX12_next 106 = .ok (.goto 4, 3) := by decide +kernel
theorem dX12_next_109 : decode cX12_next 109 = .ok (.iconst 0, 1) := by decide +kernel
theorem dX12_next_110 : decode cX12_next 110 = .ok (.istore_n 2, 1) := by decide +kernel
theorem dX12_next_111 : decode cX12_next 111 = .ok (.aload_n 0, 1) := by decide +kernel
theorem dX12_next_112 : decode cX12_next 112 = .ok (.dup, 1) := by decide +kernel
theorem dX12_next_113 : decode cX12_next 113 = .ok (.getfield 101, 3) := by decide +kernel
theorem dX12_next_116 : decode cX12_next 116 = .ok (.iconst 1, 1) := by decide +kernel
theorem dX12_next_117 : decode cX12_next 117 = .ok (.iadd, 1) := by decide +kernel
theorem dX12_next_118 : decode cX12_next 118 = .ok (.putfield 101, 3) := by decide +kernel
theorem dX12_next_121 : decode cX12_next 121 = .ok (.goto (-55), 3) := by decide +kernel
theorem dX12_next_124 : decode cX12_next 124 = .ok (.aload_n 0, 1) := by decide +kernel
theorem dX12_next_125 : decode cX12_next 125 = .ok (.aload_n 0, 1) := by decide +kernel
theorem dX12_next_126 : decode cX12_next 126 = .ok (.getfield 101, 3) := by decide +kernel
theorem dX12_next_129 : decode cX12_next 129 = .ok (.aload_n 0, 1) := by decide +kernel
theorem dX12_next_130 : decode cX12_next 130 = .ok (.getfield 107, 3) := by decide +kernel
theorem dX12_next_133 : decode cX12_next 133 = .ok (.isub, 1) := by decide +kernel
theorem dX12_next_134 : decode cX12_next 134 = .ok (.bipush 6, 2) := by decide +kernel
theorem dX12_next_136 : decode cX12_next 136 = .ok (.if_icmp .le 7, 3) := by decide +kernel
theorem dX12_next_139 : decode cX12_next 139 = .ok (.iconst 0, 1) := by decide +kernel
theorem dX12_next_140 : decode cX12_next 140 = .ok (.goto 4, 3) := by decide +kernel
theorem dX12_next_143 : decode cX12_next 143 = .ok (.iload_n 2, 1) := by decide +kernel
theorem dX12_next_144 : decode cX12_next 144 = .ok (.invokestatic 116, 3) := by decide +kernel
theorem dX12_next_147 : decode cX12_next 147 = .ok (.putfield 113, 3) := by decide +kernel
theorem dX12_next_150 : decode cX12_next 150 = .ok (.goto 131, 3) := by decide +kernel
theorem dX12_next_153 : decode cX12_next 153 = .ok (.iload_n 1, 1) := by decide +kernel
theorem dX12_next_154 : decode cX12_next 154 = .ok (.bipush 48, 2) := by decide +kernel
theorem dX12_next_156 : decode cX12_next 156 = .ok (.bipush 57, 2) := by decide +kernel
theorem dX12_next_158 : decode cX12_next 158 = .ok (.invokestatic 63, 3) := by decide +kernel
theorem dX12_next_161 : decode cX12_next 161 = .ok (.ifCond .eq 93, 3) := by decide +kernel
theorem dX12_next_164 : decode cX12_next 164 = .ok (.aload_n 0, 1) := by decide +kernel
theorem dX12_next_165 : decode cX12_next 165 = .ok (.invokevirtual 104, 3) := by decide +kernel
theorem dX12_next_168 : decode cX12_next 168 = .ok (.bipush 48, 2) := by decide +kernel
theorem dX12_next_170 : decode cX12_next 170 = .ok (.bipush 57, 2) := by decide +kernel
theorem dX12_next_172 : decode cX12_next 172 = .ok (.invokestatic 63, 3) := by decide +kernel
theorem dX12_next_175 : decode cX12_next 175 = .ok (.ifCond .eq 52, 3) := by decide +kernel
theorem dX12_next_178 : decode cX12_next 178 = .ok (.aload_n 0, 1) := by decide +kernel
theorem dX12_next_179 : decode cX12_next 179 = .ok (.aload_n 0, 1) := by decide +kernel
theorem dX12_next_180 : decode cX12_next 180 = .ok (.getfield 101, 3) := by decide +kernel
theorem dX12_next_183 : decode cX12_next 183 = .ok (.aload_n 0, 1) := by decide +kernel
theorem dX12_next_184 : decode cX12_next 184 = .ok (.getfield 107, 3) := by decide +kernel
theorem dX12_next_187 : decode cX12_next 187 = .ok (.isub, 1) := by decide +kernel
theorem dX12_next_188 : decode cX12_next 188 = .ok (.iconst 2, 1) := by decide +kernel
theorem dX12_next_189 : decode cX12_next 189 = .ok (.if_icmp .ge 21, 3) := by decide +kernel
theorem dX12_next_192 : decode cX12_next 192 = .ok (.bipush 10, 2) := by decide +kernel
theorem dX12_next_194 : decode cX12_next 194 = .ok (.aload_n 0, 1) := by decide +kernel
theorem dX12_next_195 : decode cX12_next 195 = .ok (.getfield 110, 3) := by decide +kernel
theorem dX12_next_198 : decode cX12_next 198 = .ok (.imul, 1) := by decide +kernel
theorem dX12_next_199 : decode cX12_next 199 = .ok (.aload_n 0, 1) := by decide +kernel
theorem dX12_next_200 : decode cX12_next 200 = .ok (.invokevirtual 104, 3) := by decide +kernel
theorem dX12_next_203 : decode cX12_next 203 = .ok (.iadd, 1) := by decide +kernel
theorem dX12_next_204 : decode cX12_next 204 = .ok (.bipush 48, 2) := by decide +kernel
theorem dX12_next_206 : decode cX12_next 206 = .ok (.isub, 1) := by decide +kernel
theorem dX12_next_207 : decode cX12_next 207 = .ok (.goto 4, 3) := by decide +kernel
theorem dX12_next_210 : decode cX12_next 210 = .ok (.iconst 0, 1) := by decide +kernel
theorem dX12_next_211 : decode cX12_next 211 = .ok (.putfield 110, 3) := by decide +kernel
theorem dX12_next_214 : decode cX12_next 214 = .ok (.aload_n 0, 1) := by decide +kernel
theorem dX12_next_215 : decode cX12_next 215 = .ok (.dup, 1) := by decide +kernel
theorem dX12_next_216 : decode cX12_next 216 = .ok (.getfield 101, 3) := by decide +kernel
theorem dX12_next_219 : decode cX12_next 219 = .ok (.iconst 1, 1) := by decide +kernel
theorem dX12_next_220 : decode cX12_next 220 = .ok (.iadd, 1) := by decide +kernel
theorem dX12_next_221 : decode cX12_next 221 = .ok (.putfield 101, 3) := by decide +kernel
theorem dX12_next_224 : decode cX12_next 224 = .ok (.goto (-60), 3) := by decide +kernel
theorem dX12_next_227 : decode cX12_next 227 = .ok (.aload_n 0, 1) := by decide +kernel
theorem dX12_next_228 : decode cX12_next 228 = .ok (.aload_n 0, 1) := by decide +kernel
theorem dX12_next_229 : decode cX12_next 229 = .ok (.getfield 101, 3) := by decide +kernel
theorem dX12_next_232 : decode cX12_next 232 = .ok (.aload_n 0, 1) := by decide +kernel
theorem dX12_next_233 : decode cX12_next 233 = .ok (.getfield 107, 3) := by decide +kernel
theorem dX12_next_236 : decode cX12_next 236 = .ok (.isub, 1) := by decide +kernel
theorem dX12_next_237 : decode cX12_next 237 = .ok (.iconst 2, 1) := by decide +kernel
theorem dX12_next_238 : decode cX12_next 238 = .ok (.if_icmp .le 8, 3) := by decide +kernel
theorem dX12_next_241 : decode cX12_next 241 = .ok (.bipush 9, 2) := by decide +kernel
theorem dX12_next_243 : decode cX12_next 243 = .ok (.goto 5, 3) := by decide +kernel
theorem dX12_next_246 : decode cX12_next 246 = .ok (.bipush 6, 2) := by decide +kernel
theorem dX12_next_248 : decode cX12_next 248 = .ok (.putfield 113, 3) := by decide +kernel
theorem dX12_next_251 : decode cX12_next 251 = .ok (.goto 30, 3) := by decide +kernel
theorem dX12_next_254 : decode cX12_next 254 = .ok (.aload_n 0, 1) := by decide +kernel
theorem dX12_next_255 : decode cX12_next 255 = .ok (.dup, 1) := by decide +kernel
theorem dX12_next_256 : decode cX12_next 256 = .ok (.getfield 101, 3) := by decide +kernel
theorem dX12_next_259 : decode cX12_next 259 = .ok (.iconst 1, 1) := by decide +kernel
theorem dX12_next_260 : decode cX12_next 260 = .ok (.iadd, 1) := by decide +kernel
theorem dX12_next_261 : decode cX12_next 261 = .ok (.putfield 101, 3) := by decide +kernel
theorem dX12_next_264 : decode cX12_next 264 = .ok (.aload_n 0, 1) := by decide +kernel
theorem dX12_next_265 : decode cX12_next 265 = .ok (.iload_n 1, 1) := by decide +kernel
theorem dX12_next_266 : decode cX12_next 266 = .ok (.bipush 59, 2) := by decide +kernel
theorem dX12_next_268 : decode cX12_next 268 = .ok (.if_icmp .ne 8, 3) := by decide +kernel
theorem dX12_next_271 : decode cX12_next 271 = .ok (.bipush 7, 2) := by decide +kernel
theorem dX12_next_273 : decode cX12_next 273 = .ok (.goto 5, 3) := by decide +kernel
theorem dX12_next_276 : decode cX12_next 276 = .ok (.bipush 9, 2) := by decide +kernel
theorem dX12_next_278 : decode cX12_next 278 = .ok (.putfield 113, 3) := by decide +kernel
theorem dX12_next_281 : decode cX12_next 281 = .ok (.return_, 1) := by decide +kernel
set_option maxRecDepth 20000 in
theorem ggX12_due_X12_next : GoodIn wsX12_due wsX12_next := goodIn_r _ [8, 9, 3, 1, 10, 11, 12, 13, 7, 14, 15, 16, 17, 18, 19, 20, 21, 22, 23, 24, 25, 26, 27, 28, 29, 30, 31, 32, 33, 34, 35, 36, 37, 38, 39, 40, 41, 42, 43, 44, 45] (by decide +kernel) (by decide +kernel)
set_option maxRecDepth 20000 in
theorem gX12_due_X12_next : GoodIn wsX12_due (wsV RX12 122 RX12 yX12_next wsX12_next) := goodIn_app (goodIn_of _ (by decide +kernel)) ggX12_due_X12_next
theorem dX12_due_0 : decode cX12_due 0 = .ok (.aload_n 0, 1) := by decide +kernel
theorem dX12_due_1 : decode cX12_due 1 = .ok (.getfield 110, 3) := by decide +kernel
theorem dX12_due_4 : decode cX12_due 4 = .ok (.istore_n 2, 1) := by decide +kernel
theorem dX12_due_5 : decode cX12_due 5 = .ok (.aload_n 0, 1) := by decide +kernel
theorem dX12_due_6 : decode cX12_due 6 = .ok (.getfield 119, 3) := by decide +kernel
theorem dX12_due_9 : decode cX12_due 9 = .ok (.iconst (-1), 1) := by decide +kernel
theorem dX12_due_10 : decode cX12_due 10 = .ok (.if_icmp .ne 22, 3) := by decide +kernel
theorem dX12_due_13 : decode cX12_due 13 = .ok (.iload_n 1, 1) := by decide +kernel
theorem dX12_due_14 : decode cX12_due 14 = .ok (.ifCond .eq 10, 3) := by decide +kernel
theorem dX12_due_17 : decode cX12_due 17 = .ok (.aload_n 0, 1) := by decide +kernel
theorem dX12_due_18 : decode cX12_due 18 = .ok (.invokevirtual 122, 3) := by decide +kernel
theorem dX12_due_21 : decode cX12_due 21 = .ok (.goto 11, 3) := by decide +kernel
theorem dX12_due_24 : decode cX12_due 24 = .ok (.aload_n 0, 1) := by decide +kernel
theorem dX12_due_25 : decode cX12_due 25 = .ok (.aload_n 0, 1) := by decide +kernel
theorem dX12_due_26 : decode cX12_due 26 = .ok (.getfield 107, 3) := by decide +kernel
theorem dX12_due_29 : decode cX12_due 29 = .ok (.putfield 119, 3) := by decide +kernel
theorem dX12_due_32 : decode cX12_due 32 = .ok (.iload_n 2, 1) := by decide +kernel
theorem dX12_due_33 : decode cX12_due 33 = .ok (.ireturn, 1) := by decide +kernel
set_option maxRecDepth 20000 in
theorem ggX12_number_X12_due : GoodIn wsX12_number wsX12_due := goodIn_r _ [6, 7, 8, 9, 10, 11, 12, 5, 13, 14, 1, 15, 16, 17, 18, 19, 20, 21, 22, 23, 24, 25, 26, 27, 28, 29, 30, 31, 32, 33, 34, 35, 36, 37, 38, 39, 40, 41, 42, 43, 44, 45, 46, 47, 48, 49] (by decide +kernel) (by decide +kernel)
set_option maxRecDepth 20000 in
theorem gX12_number_X12_due : GoodIn wsX12_number (wsV RX12 125 RX12 yX12_due wsX12_due) := goodIn_app (goodIn_of _ (by decide +kernel)) ggX12_number_X12_due
theorem dX12_number_0 : decode cX12_number 0 = .ok (.aload_n 0, 1) := by decide +kernel
theorem dX12_number_1 : decode cX12_number 1 = .ok (.aload_n 0, 1) := by decide +kernel
theorem dX12_number_2 : decode cX12_number 2 = .ok (.getfield 113, 3) := by decide +kernel
theorem dX12_number_5 : decode cX12_number 5 = .ok (.bipush 6, 2) := by decide +kernel
theorem dX12_number_7 : decode cX12_number 7 = .ok (.if_icmp .ne 7, 3) := by decide +kernel
theorem dX12_number_10 : decode cX12_number 10 = .ok (.iconst 1, 1) := by decide +kernel
theorem dX12_number_11 : decode cX12_number 11 = .ok (.goto 4, 3) := by decide +kernel
theorem dX12_number_14 : decode cX12_number 14 = .ok (.iconst 0, 1) := by decide +kernel
theorem dX12_number_15 : decode cX12_number 15 = .ok (.invokevirtual 125, 3) := by decide +kernel
theorem dX12_number_18 : decode cX12_number 18 = .ok (.ireturn, 1) := by decide +kernel
set_option maxRecDepth 20000 in
theorem ggX12_readItem_X12_due : GoodIn wsX12_readItem wsX12_due := goodIn_r _ [9, 10, 2, 11, 12, 13, 14, 8, 15, 16, 1, 17, 18, 19, 20, 21, 22, 23, 24, 25, 26, 27, 28, 33, 34, 35, 36, 37, 38, 39, 40, 41, 42, 43, 44, 45, 46, 47, 48, 49, 50, 51, 52, 53, 54, 55] (by decide +kernel) (by decide +kernel)
set_option maxRecDepth 20000 in
theorem gX12_readItem_X12_due : GoodIn wsX12_readItem (wsV RX12 125 RX12 yX12_due wsX12_due) := goodIn_app (goodIn_of _ (by decide +kernel)) ggX12_readItem_X12_due
set_option maxRecDepth 20000 in
theorem ggX12_readItem_X12_number : GoodIn wsX12_readItem wsX12_number := goodIn_r _ [32, 1, 5, 6, 7, 8, 9, 10, 2, 11, 12, 13, 14, 15, 16, 17, 18, 19, 20, 21, 22, 23, 24, 25, 26, 27, 28, 33, 34, 35, 36, 37, 38, 39, 40, 41, 42, 43, 44, 45, 46, 47, 48, 49, 50, 51, 52, 53, 54, 55] (by decide +kernel) (by decide +kernel)
set_option maxRecDepth 20000 in
theorem gX12_readItem_X12_number : GoodIn wsX12_readItem (wsV RX12 132 RX12 yX12_number wsX12_number) := goodIn_app (goodIn_of _ (by decide +kernel)) ggX12_readItem_X12_number
theorem dX12_readItem_0 : decode cX12_readItem 0 = .ok (.aload_n 0, 1) := by decide +kernel
theorem dX12_readItem_1 : decode cX12_readItem 1 = .ok (.getfield 113, 3) := by decide +kernel
theorem dX12_readItem_4 : decode cX12_readItem 4 = .ok (.istore_n 1, 1) := by decide +kernel
theorem dX12_readItem_5 : decode cX12_readItem 5 = .ok (.aload_n 0, 1) := by decide +kernel
theorem dX12_readItem_6 : decode cX12_readItem 6 = .ok (.iload_n 1, 1) := by decide +kernel
theorem dX12_readItem_7 : decode cX12_readItem 7 = .ok (.iconst 5, 1) := by decide +kernel
theorem dX12_readItem_8 : decode cX12_readItem 8 = .ok (.if_icmp .gt 7, 3) := by decide +kernel
theorem dX12_readItem_11 : decode cX12_readItem 11 = .ok (.iconst 1, 1) := by decide +kernel
theorem dX12_readItem_12 : decode cX12_readItem 12 = .ok (.goto 4, 3) := by decide +kernel
theorem dX12_readItem_15 : decode cX12_readItem 15 = .ok (.iconst 0, 1) := by decide +kernel
theorem dX12_readItem_16 : decode cX12_readItem 16 = .ok (.invokevirtual 125, 3) := by decide +kernel
theorem dX12_readItem_19 : decode cX12_readItem 19 = .ok (.pop, 1) := by decide +kernel
theorem dX12_readItem_20 : decode cX12_readItem 20 = .ok (.iload_n 1, 1) := by decide +kernel
theorem dX12_readItem_21 : decode cX12_readItem 21 = .ok (.iconst 1, 1) := by decide +kernel
theorem dX12_readItem_22 : decode cX12_readItem 22 = .ok (.if_icmp .ne 7, 3) := by decide +kernel
theorem dX12_readItem_25 : decode cX12_readItem 25 = .ok (.iconst 4, 1) := by decide +kernel
theorem dX12_readItem_26 : decode cX12_readItem 26 = .ok (.goto 27, 3) := by decide +kernel
theorem dX12_readItem_29 : decode cX12_readItem 29 = .ok (.iload_n 1, 1) := by decide +kernel
theorem dX12_readItem_30 : decode cX12_readItem 30 = .ok (.iconst 3, 1) := by decide +kernel
theorem dX12_readItem_31 : decode cX12_readItem 31 = .ok (.if_icmp .ne 7, 3) := by decide +kernel
theorem dX12_readItem_34 : decode cX12_readItem 34 = .ok (.iconst 3, 1) := by decide +kernel
theorem dX12_readItem_35 : decode cX12_readItem 35 = .ok (.goto 18, 3) := by decide +kernel
theorem dX12_readItem_38 : decode cX12_readItem 38 = .ok (.iload_n 1, 1) := by decide +kernel
theorem dX12_readItem_39 : decode cX12_readItem 39 = .ok (.iconst 2, 1) := by decide +kernel
theorem dX12_readItem_40 : decode cX12_readItem 40 = .ok (.if_icmp .eq 8, 3) := by decide +kernel
theorem dX12_readItem_43 : decode cX12_readItem 43 = .ok (.iload_n 1, 1) := by decide +kernel
theorem dX12_readItem_44 : decode cX12_readItem 44 = .ok (.iconst 4, 1) := by decide +kernel
theorem dX12_readItem_45 : decode cX12_readItem 45 = .ok (.if_icmp .ne 7, 3) := by decide +kernel
theorem dX12_readItem_48 : decode cX12_readItem 48 = .ok (.iconst 2, 1) := by decide +kernel
theorem dX12_readItem_49 : decode cX12_readItem 49 = .ok (.goto 4, 3) := by decide +kernel
theorem dX12_readItem_52 : decode cX12_readItem 52 = .ok (.iconst 1, 1) := by decide +kernel
theorem dX12_readItem_53 : decode cX12_readItem 53 = .ok (.istore_n 2, 1) := by decide +kernel
theorem dX12_readItem_54 : decode cX12_readItem 54 = .ok (.iconst 0, 1) := by decide +kernel
theorem dX12_readItem_55 : decode cX12_readItem 55 = .ok (.istore_n 3, 1) := by decide +kernel
theorem dX12_readItem_56 : decode cX12_readItem 56 = .ok (.iload_n 3, 1) := by decide +kernel
theorem dX12_readItem_57 : decode cX12_readItem 57 = .ok (.iload_n 2, 1) := by decide +kernel
theorem dX12_readItem_58 : decode cX12_readItem 58 = .ok (.if_icmp .ge 36, 3) := by decide +kernel
theorem dX12_readItem_61 : decode cX12_readItem 61 = .ok (.aload_n 0, 1) := by decide +kernel
theorem dX12_readItem_62 : decode cX12_readItem 62 = .ok (.getfield 119, 3) := by decide +kernel
theorem dX12_readItem_65 : decode cX12_readItem 65 = .ok (.iconst (-1), 1) := by decide +kernel
theorem dX12_readItem_66 : decode cX12_readItem 66 = .ok (.if_icmp .ne 28, 3) := by decide +kernel
theorem dX12_readItem_69 : decode cX12_readItem 69 = .ok (.aload_n 0, 1) := by decide +kernel
theorem dX12_readItem_70 : decode cX12_readItem 70 = .ok (.getfield 24, 3) := by decide +kernel
theorem dX12_readItem_73 : decode cX12_readItem 73 = .ok (.iconst 5, 1) := by decide +kernel
theorem dX12_readItem_74 : decode cX12_readItem 74 = .ok (.aload_n 0, 1) := by decide +kernel
theorem dX12_readItem_75 : decode cX12_readItem 75 = .ok (.getfield 129, 3) := by decide +kernel
theorem dX12_readItem_78 : decode cX12_readItem 78 = .ok (.imul, 1) := by decide +kernel
theorem dX12_readItem_79 : decode cX12_readItem 79 = .ok (.iconst 1, 1) := by decide +kernel
theorem dX12_readItem_80 : decode cX12_readItem 80 = .ok (.iadd, 1) := by decide +kernel
theorem dX12_readItem_81 : decode cX12_readItem 81 = .ok (.iload_n 3, 1) := by decide +kernel
theorem dX12_readItem_82 : decode cX12_readItem 82 = .ok (.iadd, 1) := by decide +kernel
theorem dX12_readItem_83 : decode cX12_readItem 83 = .ok (.aload_n 0, 1) := by decide +kernel
theorem dX12_readItem_84 : decode cX12_readItem 84 = .ok (.invokevirtual 132, 3) := by decide +kernel
theorem dX12_readItem_87 : decode cX12_readItem 87 = .ok (.iastore, 1) := by decide +kernel
theorem dX12_readItem_88 : decode cX12_readItem 88 = .ok (.iinc 3 1, 3) := by decide +kernel
theorem dX12_readItem_91 : decode cX12_readItem 91 = .ok (.goto (-35), 3) := by decide +kernel
theorem dX12_readItem_94 : decode cX12_readItem 94 = .ok (.aload_n 0, 1) := by decide +kernel
theorem dX12_readItem_95 : decode cX12_readItem 95 = .ok (.aload_n 0, 1) := by decide +kernel
theorem dX12_readItem_96 : decode cX12_readItem 96 = .ok (.getfield 113, 3) := by decide +kernel
theorem dX12_readItem_99 : decode cX12_readItem 99 = .ok (.bipush 7, 2) := by decide +kernel
theorem dX12_readItem_101 : decode cX12_readItem 101 = .ok (.if_icmp .ne 7, 3) := by decide +kernel
theorem dX12_readItem_104 : decode cX12_readItem 104 = .ok (.iconst 1, 1) := by decide +kernel
theorem dX12_readItem_105 : decode cX12_readItem 105 = .ok (.goto 4, 3) := by decide +kernel
theorem dX12_readItem_108 : decode cX12_readItem 108 = .ok (.iconst 0, 1) := by decide +kernel
theorem dX12_readItem_109 : decode cX12_readItem 109 = .ok (.invokevirtual 125, 3) := by decide +kernel
theorem dX12_readItem_112 : decode cX12_readItem 112 = .ok (.pop, 1) := by decide +kernel
theorem dX12_readItem_113 : decode cX12_readItem 113 = .ok (.aload_n 0, 1) := by decide +kernel
theorem dX12_readItem_114 : decode cX12_readItem 114 = .ok (.getfield 24, 3) := by decide +kernel
theorem dX12_readItem_117 : decode cX12_readItem 117 = .ok (.iconst 5, 1) := by decide +kernel
theorem dX12_readItem_118 : decode cX12_readItem 118 = .ok (.aload_n 0, 1) := by decide +kernel
theorem dX12_readItem_119 : decode cX12_readItem 119 = .ok (.getfield 129, 3) := by decide +kernel
theorem dX12_readItem_122 : decode cX12_readItem 122 = .ok (.imul, 1) := by decide +kernel
theorem dX12_readItem_123 : decode cX12_readItem 123 = .ok (.iload_n 1, 1) := by decide +kernel
theorem dX12_readItem_124 : decode cX12_readItem 124 = .ok (.iastore, 1) := by decide +kernel
theorem dX12_readItem_125 : decode cX12_readItem 125 = .ok (.aload_n 0, 1) := by decide +kernel
theorem dX12_readItem_126 : decode cX12_readItem 126 = .ok (.dup, 1) := by decide +kernel
theorem dX12_readItem_127 : decode cX12_readItem 127 = .ok (.getfield 129, 3) := by decide +kernel
theorem dX12_readItem_130 : decode cX12_readItem 130 = .ok (.iconst 1, 1) := by decide +kernel
theorem dX12_readItem_131 : decode cX12_readItem 131 = .ok (.iadd, 1) := by decide +kernel
theorem dX12_readItem_132 : decode cX12_readItem 132 = .ok (.putfield 129, 3) := by decide +kernel
theorem dX12_readItem_135 : decode cX12_readItem 135 = .ok (.return_, 1) := by decide +kernel
set_option maxRecDepth 20000 in
theorem ggX12_tellItem_X12_setWall : GoodIn wsX12_tellItem wsX12_setWall := goodIn_r _ [6, 7, 8, 9, 5, 10, 35, 36, 37, 38, 39, 40, 41, 42, 43, 44, 45, 46, 47, 48, 49, 50, 51, 52, 53, 54, 55, 56, 57] (by decide +kernel) (by decide +kernel)
set_option maxRecDepth 20000 in
theorem gX12_tellItem_X12_setWall : GoodIn wsX12_tellItem (wsV RX12 71 RX12 yX12_setWall wsX12_setWall) := goodIn_app (goodIn_of _ (by decide +kernel)) ggX12_tellItem_X12_setWall
set_option maxRecDepth 20000 in
theorem ggX12_tellItem_X12_addPasser : GoodIn wsX12_tellItem wsX12_addPasser := goodIn_r _ [14, 7, 15, 16, 17, 5, 18, 8, 9, 10, 35, 36, 37, 38, 39, 40, 41, 42, 43, 44, 45, 46, 47, 48, 49, 50, 51, 52, 53, 54, 55, 56, 57] (by decide +kernel) (by decide +kernel)
set_option maxRecDepth 20000 in
theorem gX12_tellItem_X12_addPasser : GoodIn wsX12_tellItem (wsV RX12 81 RX12 yX12_addPasser wsX12_addPasser) := goodIn_app (goodIn_of _ (by decide +kernel)) ggX12_tellItem_X12_addPasser
set_option maxRecDepth 20000 in
theorem ggX12_tellItem_X12_addBeast : GoodIn wsX12_tellItem wsX12_addBeast := goodIn_r _ [22, 7, 8, 9, 5, 10, 35, 36, 37, 38, 39, 40, 41, 42, 43, 44, 45, 46, 47, 48, 49, 50, 51, 52, 53, 54, 55, 56, 57] (by decide +kernel) (by decide +kernel)
set_option maxRecDepth 20000 in
theorem gX12_tellItem_X12_addBeast : GoodIn wsX12_tellItem (wsV RX12 88 RX12 yX12_addBeast wsX12_addBeast) := goodIn_app (goodIn_of _ (by decide +kernel)) ggX12_tellItem_X12_addBeast
set_option maxRecDepth 20000 in
theorem ggX12_tellItem_X12_addCheck : GoodIn wsX12_tellItem wsX12_addCheck := goodIn_r _ [26, 7, 8, 9, 5, 10, 35, 36, 37, 38, 39, 40, 41, 42, 43, 44, 45, 46, 47, 48, 49, 50, 51, 52, 53, 54, 55, 56, 57] (by decide +kernel) (by decide +kernel)
set_option maxRecDepth 20000 in
theorem gX12_tellItem_X12_addCheck : GoodIn wsX12_tellItem (wsV RX12 135 RX12 yX12_addCheck wsX12_addCheck) := goodIn_app (goodIn_of _ (by decide +kernel)) ggX12_tellItem_X12_addCheck
set_option maxRecDepth 20000 in
theorem ggX12_tellItem_X12_addLook : GoodIn wsX12_tellItem wsX12_addLook := goodIn_r _ [30, 7, 8, 9, 5, 10, 35, 36, 37, 38, 39, 40, 41, 42, 43, 44, 45, 46, 47, 48, 49, 50, 51, 52, 53, 54, 55, 56, 57] (by decide +kernel) (by decide +kernel)
set_option maxRecDepth 20000 in
theorem gX12_tellItem_X12_addLook : GoodIn wsX12_tellItem (wsV RX12 139 RX12 yX12_addLook wsX12_addLook) := goodIn_app (goodIn_of _ (by decide +kernel)) ggX12_tellItem_X12_addLook
set_option maxRecDepth 20000 in
theorem ggX12_tellItem_X12_setCoach : GoodIn wsX12_tellItem wsX12_setCoach := goodIn_r _ [34, 7, 8, 9, 5, 10, 35, 36, 37, 38, 39, 40, 41, 42, 43, 44, 45, 46, 47, 48, 49, 50, 51, 52, 53, 54, 55, 56, 57] (by decide +kernel) (by decide +kernel)
set_option maxRecDepth 20000 in
theorem gX12_tellItem_X12_setCoach : GoodIn wsX12_tellItem (wsV RX12 78 RX12 yX12_setCoach wsX12_setCoach) := goodIn_app (goodIn_of _ (by decide +kernel)) ggX12_tellItem_X12_setCoach
theorem dX12_tellItem_0 : decode cX12_tellItem 0 = .ok (.aload_n 0, 1) := by decide +kernel
theorem dX12_tellItem_1 : decode cX12_tellItem 1 = .ok (.getfield 24, 3) := by decide +kernel
theorem dX12_tellItem_4 : decode cX12_tellItem 4 = .ok (.iconst 5, 1) := by decide +kernel
theorem dX12_tellItem_5 : decode cX12_tellItem 5 = .ok (.iload_n 1, 1) := by decide +kernel
theorem dX12_tellItem_6 : decode cX12_tellItem 6 = .ok (.imul, 1) := by decide +kernel
theorem dX12_tellItem_7 : decode cX12_tellItem 7 = .ok (.iconst 1, 1) := by decide +kernel
theorem dX12_tellItem_8 : decode cX12_tellItem 8 = .ok (.iadd, 1) := by decide +kernel
theorem dX12_tellItem_9 : decode cX12_tellItem 9 = .ok (.iaload, 1) := by decide +kernel
theorem dX12_tellItem_10 : decode cX12_tellItem 10 = .ok (.istore_n 2, 1) := by decide +kernel
theorem dX12_tellItem_11 : decode cX12_tellItem 11 = .ok (.aload_n 0, 1) := by decide +kernel
theorem dX12_tellItem_12 : decode cX12_tellItem 12 = .ok (.getfield 24, 3) := by decide +kernel
theorem dX12_tellItem_15 : decode cX12_tellItem 15 = .ok (.iconst 5, 1) := by decide +kernel
theorem dX12_tellItem_16 : decode cX12_tellItem 16 = .ok (.iload_n 1, 1) := by decide +kernel
theorem dX12_tellItem_17 : decode cX12_tellItem 17 = .ok (.imul, 1) := by decide +kernel
theorem dX12_tellItem_18 : decode cX12_tellItem 18 = .ok (.iconst 2, 1) := by decide +kernel
theorem dX12_tellItem_19 : decode cX12_tellItem 19 = .ok (.iadd, 1) := by decide +kernel
theorem dX12_tellItem_20 : decode cX12_tellItem 20 = .ok (.iaload, 1) := by decide +kernel
theorem dX12_tellItem_21 : decode cX12_tellItem 21 = .ok (.istore_n 3, 1) := by decide +kernel
theorem dX12_tellItem_22 : decode cX12_tellItem 22 = .ok (.aload_n 0, 1) := by decide +kernel
theorem dX12_tellItem_23 : decode cX12_tellItem 23 = .ok (.getfield 24, 3) := by decide +kernel
theorem dX12_tellItem_26 : decode cX12_tellItem 26 = .ok (.iconst 5, 1) := by decide +kernel
theorem dX12_tellItem_27 : decode cX12_tellItem 27 = .ok (.iload_n 1, 1) := by decide +kernel
theorem dX12_tellItem_28 : decode cX12_tellItem 28 = .ok (.imul, 1) := by decide +kernel
theorem dX12_tellItem_29 : decode cX12_tellItem 29 = .ok (.iconst 3, 1) := by decide +kernel
theorem dX12_tellItem_30 : decode cX12_tellItem 30 = .ok (.iadd, 1) := by decide +kernel
theorem dX12_tellItem_31 : decode cX12_tellItem 31 = .ok (.iaload, 1) := by decide +kernel
theorem dX12_tellItem_32 : decode cX12_tellItem 32 = .ok (.istore 4, 2) := by decide +kernel
theorem dX12_tellItem_34 : decode cX12_tellItem 34 = .ok (.aload_n 0, 1) := by decide +kernel
theorem dX12_tellItem_35 : decode cX12_tellItem 35 = .ok (.getfield 24, 3) := by decide +kernel
theorem dX12_tellItem_38 : decode cX12_tellItem 38 = .ok (.iconst 5, 1) := by decide +kernel
theorem dX12_tellItem_39 : decode cX12_tellItem 39 = .ok (.iload_n 1, 1) := by decide +kernel
theorem dX12_tellItem_40 : decode cX12_tellItem 40 = .ok (.imul, 1) := by decide +kernel
theorem dX12_tellItem_41 : decode cX12_tellItem 41 = .ok (.iconst 4, 1) := by decide +kernel
theorem dX12_tellItem_42 : decode cX12_tellItem 42 = .ok (.iadd, 1) := by decide +kernel
theorem dX12_tellItem_43 : decode cX12_tellItem 43 = .ok (.iaload, 1) := by decide +kernel
theorem dX12_tellItem_44 : decode cX12_tellItem 44 = .ok (.istore 5, 2) := by decide +kernel
theorem dX12_tellItem_46 : decode cX12_tellItem 46 = .ok (.aload_n 0, 1) := by decide +kernel
theorem dX12_tellItem_47 : decode cX12_tellItem 47 = .ok (.getfield 24, 3) := by decide +kernel
theorem dX12_tellItem_50 : decode cX12_tellItem 50 = .ok (.iconst 5, 1) := by decide +kernel
theorem dX12_tellItem_51 : decode cX12_tellItem 51 = .ok (.iload_n 1, 1) := by decide +kernel
theorem dX12_tellItem_52 : decode cX12_tellItem 52 = .ok (.imul, 1) := by decide +kernel
theorem dX12_tellItem_53 : decode cX12_tellItem 53 = .ok (.iaload, 1) := by decide +kernel
theorem dX12_tellItem_54 : decode cX12_tellItem 54 = .ok (.tableswitch 74 0 4 #[34, 40, 51, 58, 67], 34) := by decide +kernel
theorem dX12_tellItem_88 : decode cX12_tellItem 88 = .ok (.aload_n 0, 1) := by decide +kernel
theorem dX12_tellItem_89 : decode cX12_tellItem 89 = .ok (.iload_n 2, 1) := by decide +kernel
theorem dX12_tellItem_90 : decode cX12_tellItem 90 = .ok (.invokevirtual 71, 3) := by decide +kernel
theorem dX12_tellItem_93 : decode cX12_tellItem 93 = .ok (.ireturn, 1) := by decide +kernel
theorem dX12_tellItem_94 : decode cX12_tellItem 94 = .ok (.aload_n 0, 1) := by decide +kernel
theorem dX12_tellItem_95 : decode cX12_tellItem 95 = .ok (.iload_n 2, 1) := by decide +kernel
theorem dX12_tellItem_96 : decode cX12_tellItem 96 = .ok (.iload_n 3, 1) := by decide +kernel
theorem dX12_tellItem_97 : decode cX12_tellItem 97 = .ok (.iload 4, 2) := by decide +kernel
theorem dX12_tellItem_99 : decode cX12_tellItem 99 = .ok (.iload 5, 2) := by decide +kernel
theorem dX12_tellItem_101 : decode cX12_tellItem 101 = .ok (.invokevirtual 81, 3) := by decide +kernel
theorem dX12_tellItem_104 : decode cX12_tellItem 104 = .ok (.ireturn, 1) := by decide +kernel
theorem dX12_tellItem_105 : decode cX12_tellItem 105 = .ok (.aload_n 0, 1) := by decide +kernel
theorem dX12_tellItem_106 : decode cX12_tellItem 106 = .ok (.iload_n 2, 1) := by decide +kernel
theorem dX12_tellItem_107 : decode cX12_tellItem 107 = .ok (.iload_n 3, 1) := by decide +kernel
theorem dX12_tellItem_108 : decode cX12_tellItem 108 = .ok (.invokevirtual 88, 3) := by decide +kernel
theorem dX12_tellItem_111 : decode cX12_tellItem 111 = .ok (.ireturn, 1) := by decide +kernel
theorem dX12_tellItem_112 : decode cX12_tellItem 112 = .ok (.aload_n 0, 1) := by decide +kernel
theorem dX12_tellItem_113 : decode cX12_tellItem 113 = .ok (.iload_n 2, 1) := by decide +kernel
theorem dX12_tellItem_114 : decode cX12_tellItem 114 = .ok (.iload_n 3, 1) := by decide +kernel
theorem dX12_tellItem_115 : decode cX12_tellItem 115 = .ok (.iload 4, 2) := by decide +kernel
theorem dX12_tellItem_117 : decode cX12_tellItem 117 = .ok (.invokevirtual 135, 3) := by decide +kernel
theorem dX12_tellItem_120 : decode cX12_tellItem 120 = .ok (.ireturn, 1) := by decide +kernel
theorem dX12_tellItem_121 : decode cX12_tellItem 121 = .ok (.aload_n 0, 1) := by decide +kernel
theorem dX12_tellItem_122 : decode cX12_tellItem 122 = .ok (.iload_n 2, 1) := by decide +kernel
theorem dX12_tellItem_123 : decode cX12_tellItem 123 = .ok (.iload_n 3, 1) := by decide +kernel
theorem dX12_tellItem_124 : decode cX12_tellItem 124 = .ok (.invokevirtual 139, 3) := by decide +kernel
theorem dX12_tellItem_127 : decode cX12_tellItem 127 = .ok (.ireturn, 1) := by decide +kernel
theorem dX12_tellItem_128 : decode cX12_tellItem 128 = .ok (.aload_n 0, 1) := by decide +kernel
theorem dX12_tellItem_129 : decode cX12_tellItem 129 = .ok (.iload_n 2, 1) := by decide +kernel
theorem dX12_tellItem_130 : decode cX12_tellItem 130 = .ok (.invokevirtual 78, 3) := by decide +kernel
theorem dX12_tellItem_133 : decode cX12_tellItem 133 = .ok (.ireturn, 1) := by decide +kernel
set_option maxRecDepth 20000 in
theorem ggX12_read_X12_next : GoodIn wsX12_read wsX12_next := goodIn_r _ [9, 1, 10, 11, 4, 12, 13, 14, 8, 15, 16, 17, 18, 19, 20, 21, 22, 23, 78, 79, 80, 81, 82, 83, 84, 85, 86, 87, 88, 89, 90, 91, 92, 93, 94, 95, 96, 97, 98, 99, 100] (by decide +kernel) (by decide +kernel)
set_option maxRecDepth 20000 in
theorem gX12_read_X12_next : GoodIn wsX12_read (wsV RX12 122 RX12 yX12_next wsX12_next) := goodIn_app (goodIn_of _ (by decide +kernel)) ggX12_read_X12_next
set_option maxRecDepth 20000 in
theorem ggX12_read_X12_readItem : GoodIn wsX12_read wsX12_readItem := goodIn_r _ [27, 4, 2, 28, 3, 29, 30, 31, 8, 32, 11, 10, 5, 6, 7, 9, 1, 12, 13, 14, 15, 16, 17, 18, 19, 20, 21, 22, 23, 33, 34, 35, 36, 78, 79, 80, 81, 82, 83, 84, 85, 86, 87, 88, 89, 90, 91, 92, 93, 94, 95, 96, 97, 98, 99, 100] (by decide +kernel) (by decide +kernel)
set_option maxRecDepth 20000 in
theorem gX12_read_X12_readItem : GoodIn wsX12_read (wsV RX12 142 RX12 yX12_readItem wsX12_readItem) := goodIn_app (goodIn_of _ (by decide +kernel)) ggX12_read_X12_readItem
set_option maxRecDepth 20000 in
theorem ggX12_read_X12_copy : GoodIn wsX12_read wsX12_copy := goodIn_r _ [40, 41, 78, 79, 80, 81, 82, 83, 84, 85, 86, 87, 88, 89, 90, 91, 92, 93, 94, 95, 96, 97, 98, 99, 100] (by decide +kernel) (by decide +kernel)
set_option maxRecDepth 20000 in
theorem gX12_read_X12_copy : GoodIn wsX12_read (wsV RX12 145 RX12 yX12_copy wsX12_copy) := goodIn_app (goodIn_of _ (by decide +kernel)) ggX12_read_X12_copy
set_option maxRecDepth 20000 in
theorem ggX12_read_X12_anew : GoodIn wsX12_read wsX12_anew := goodIn_r _ [45, 41, 78, 79, 80, 81, 82, 83, 84, 85, 86, 87, 88, 89, 90, 91, 92, 93, 94, 95, 96, 97, 98, 99, 100] (by decide +kernel) (by decide +kernel)
set_option maxRecDepth 20000 in
theorem gX12_read_X12_anew : GoodIn wsX12_read (wsV RX12 49 RX12 yX12_anew wsX12_anew) := goodIn_app (goodIn_of _ (by decide +kernel)) ggX12_read_X12_anew
set_option maxRecDepth 20000 in
theorem ggX12_read_X12_tellItem : GoodIn wsX12_read wsX12_tellItem := goodIn_r _ [49, 28, 50, 51, 52, 8, 53, 41, 18, 19, 20, 54, 55, 56, 57, 58, 59, 60, 61, 62, 63, 64, 65, 66, 67, 68, 69, 70, 71, 72, 73, 74, 75, 76, 77, 78, 79, 80, 81, 82, 83, 84, 85, 86, 87, 88, 89, 90, 91, 92, 93, 94, 95, 96, 97, 98, 99, 100] (by decide +kernel) (by decide +kernel)
set_option maxRecDepth 20000 in
theorem gX12_read_X12_tellItem : GoodIn wsX12_read (wsV RX12 149 RX12 yX12_tellItem wsX12_tellItem) := goodIn_app (goodIn_of _ (by decide +kernel)) ggX12_read_X12_tellItem
theorem dX12_read_0 : decode cX12_read 0 = .ok (.aload_n 0, 1) := by decide +kernel
theorem dX12_read_1 : decode cX12_read 1 = .ok (.iconst 0, 1) := by decide +kernel
theorem dX12_read_2 : decode cX12_read 2 = .ok (.putfield 101, 3) := by decide +kernel
theorem dX12_read_5 : decode cX12_read 5 = .ok (.aload_n 0, 1) := by decide +kernel
theorem dX12_read_6 : decode cX12_read 6 = .ok (.iconst (-1), 1) := by decide +kernel
theorem dX12_read_7 : decode cX12_read 7 = .ok (.putfield 119, 3) := by decide +kernel
theorem dX12_read_10 : decode cX12_read 10 = .ok (.aload_n 0, 1) := by decide +kernel
theorem dX12_read_11 : decode cX12_read 11 = .ok (.iconst 0, 1) := by decide +kernel
theorem dX12_read_12 : decode cX12_read 12 = .ok (.putfield 129, 3) := by decide +kernel
theorem dX12_read_15 : decode cX12_read 15 = .ok (.aload_n 0, 1) := by decide +kernel
theorem dX12_read_16 : decode cX12_read 16 = .ok (.invokevirtual 122, 3) := by decide +kernel
theorem dX12_read_19 : decode cX12_read 19 = .ok (.aload_n 0, 1) := by decide +kernel
theorem dX12_read_20 : decode cX12_read 20 = .ok (.getfield 119, 3) := by decide +kernel
theorem dX12_read_23 : decode cX12_read 23 = .ok (.iconst (-1), 1) := by decide +kernel
theorem dX12_read_24 : decode cX12_read 24 = .ok (.if_icmp .ne 19, 3) := by decide +kernel
theorem dX12_read_27 : decode cX12_read 27 = .ok (.aload_n 0, 1) := by decide +kernel
theorem dX12_read_28 : decode cX12_read 28 = .ok (.getfield 113, 3) := by decide +kernel
theorem dX12_read_31 : decode cX12_read 31 = .ok (.bipush 8, 2) := by decide +kernel
theorem dX12_read_33 : decode cX12_read 33 = .ok (.if_icmp .eq 10, 3) := by decide +kernel
theorem dX12_read_36 : decode cX12_read 36 = .ok (.aload_n 0, 1) := by decide +kernel
theorem dX12_read_37 : decode cX12_read 37 = .ok (.invokevirtual 142, 3) := by decide +kernel
theorem dX12_read_40 : decode cX12_read 40 = .ok (.goto (-21), 3) := by decide +kernel
theorem dX12_read_43 : decode cX12_read 43 = .ok (.aload_n 0, 1) := by decide +kernel
theorem dX12_read_44 : decode cX12_read 44 = .ok (.getfield 119, 3) := by decide +kernel
theorem dX12_read_47 : decode cX12_read 47 = .ok (.iconst (-1), 1) := by decide +kernel
theorem dX12_read_48 : decode cX12_read 48 = .ok (.if_icmp .eq 11, 3) := by decide +kernel
theorem dX12_read_51 : decode cX12_read 51 = .ok (.bipush (-10), 2) := by decide +kernel
theorem dX12_read_53 : decode cX12_read 53 = .ok (.aload_n 0, 1) := by decide +kernel
theorem dX12_read_54 : decode cX12_read 54 = .ok (.getfield 119, 3) := by decide +kernel
theorem dX12_read_57 : decode cX12_read 57 = .ok (.isub, 1) := by decide +kernel
theorem dX12_read_58 : decode cX12_read 58 = .ok (.ireturn, 1) := by decide +kernel
theorem dX12_read_59 : decode cX12_read 59 = .ok (.aload_n 0, 1) := by decide +kernel
theorem dX12_read_60 : decode cX12_read 60 = .ok (.iconst 0, 1) := by decide +kernel
theorem dX12_read_61 : decode cX12_read 61 = .ok (.sipush 339, 3) := by decide +kernel
theorem dX12_read_64 : decode cX12_read 64 = .ok (.invokevirtual 145, 3) := by decide +kernel
theorem dX12_read_67 : decode cX12_read 67 = .ok (.aload_n 0, 1) := by decide +kernel
theorem dX12_read_68 : decode cX12_read 68 = .ok (.invokevirtual 49, 3) := by decide +kernel
theorem dX12_read_71 : decode cX12_read 71 = .ok (.iconst 0, 1) := by decide +kernel
theorem dX12_read_72 : decode cX12_read 72 = .ok (.istore_n 1, 1) := by decide +kernel
theorem dX12_read_73 : decode cX12_read 73 = .ok (.iload_n 1, 1) := by decide +kernel
theorem dX12_read_74 : decode cX12_read 74 = .ok (.aload_n 0, 1) := by decide +kernel
theorem dX12_read_75 : decode cX12_read 75 = .ok (.getfield 129, 3) := by decide +kernel
theorem dX12_read_78 : decode cX12_read 78 = .ok (.if_icmp .ge 32, 3) := by decide +kernel
theorem dX12_read_81 : decode cX12_read 81 = .ok (.aload_n 0, 1) := by decide +kernel
theorem dX12_read_82 : decode cX12_read 82 = .ok (.iload_n 1, 1) := by decide +kernel
theorem dX12_read_83 : decode cX12_read 83 = .ok (.invokevirtual 149, 3) := by decide +kernel
theorem dX12_read_86 : decode cX12_read 86 = .ok (.iconst (-1), 1) := by decide +kernel
theorem dX12_read_87 : decode cX12_read 87 = .ok (.if_icmp .ge 17, 3) := by decide +kernel
theorem dX12_read_90 : decode cX12_read 90 = .ok (.aload_n 0, 1) := by decide +kernel
theorem dX12_read_91 : decode cX12_read 91 = .ok (.sipush 339, 3) := by decide +kernel
theorem dX12_read_94 : decode cX12_read 94 = .ok (.iconst 0, 1) := by decide +kernel
theorem dX12_read_95 : decode cX12_read 95 = .ok (.invokevirtual 145, 3) := by decide +kernel
theorem dX12_read_98 : decode cX12_read 98 = .ok (.sipush (-1000), 3) := by decide +kernel
theorem dX12_read_101 : decode cX12_read 101 = .ok (.iload_n 1, 1) := by decide +kernel
theorem dX12_read_102 : decode cX12_read 102 = .ok (.isub, 1) := by decide +kernel
theorem dX12_read_103 : decode cX12_read 103 = .ok (.ireturn, 1) := by decide +kernel
theorem dX12_read_104 : decode cX12_read 104 = .ok (.iinc 1 1, 3) := by decide +kernel
theorem dX12_read_107 : decode cX12_read 107 = .ok (.goto (-34), 3) := by decide +kernel
theorem dX12_read_110 : decode cX12_read 110 = .ok (.aload_n 0, 1) := by decide +kernel
theorem dX12_read_111 : decode cX12_read 111 = .ok (.getfield 129, 3) := by decide +kernel
theorem dX12_read_114 : decode cX12_read 114 = .ok (.ireturn, 1) := by decide +kernel
theorem dX12_takeOne_0 : decode cX12_takeOne 0 = .ok (.iload_n 0, 1) := by decide +kernel
theorem dX12_takeOne_1 : decode cX12_takeOne 1 = .ok (.ifCond .le 7, 3) := by decide +kernel
theorem dX12_takeOne_4 : decode cX12_takeOne 4 = .ok (.iconst (-1), 1) := by decide +kernel
theorem dX12_takeOne_5 : decode cX12_takeOne 5 = .ok (.goto 4, 3) := by decide +kernel
theorem dX12_takeOne_8 : decode cX12_takeOne 8 = .ok (.iconst 0, 1) := by decide +kernel
theorem dX12_takeOne_9 : decode cX12_takeOne 9 = .ok (.ireturn, 1) := by decide +kernel
theorem dX12_layOne_0 : decode cX12_layOne 0 = .ok (.iload_n 0, 1) := by decide +kernel
theorem dX12_layOne_1 : decode cX12_layOne 1 = .ok (.bipush 30, 2) := by decide +kernel
theorem dX12_layOne_3 : decode cX12_layOne 3 = .ok (.if_icmp .ge 7, 3) := by decide +kernel
theorem dX12_layOne_6 : decode cX12_layOne 6 = .ok (.iconst 1, 1) := by decide +kernel
theorem dX12_layOne_7 : decode cX12_layOne 7 = .ok (.goto 4, 3) := by decide +kernel
theorem dX12_layOne_10 : decode cX12_layOne 10 = .ok (.iconst 0, 1) := by decide +kernel
theorem dX12_layOne_11 : decode cX12_layOne 11 = .ok (.ireturn, 1) := by decide +kernel
set_option maxRecDepth 20000 in
theorem ggX12_actOf_X12_ofPasser : GoodIn wsX12_actOf wsX12_ofPasser := goodIn_r _ [5, 6, 13, 14, 15, 16, 17, 18, 19, 20, 21, 22, 23, 24, 25, 26, 27, 28, 29, 30, 31, 32, 33, 34, 35] (by decide +kernel) (by decide +kernel)
set_option maxRecDepth 20000 in
theorem gX12_actOf_X12_ofPasser : GoodIn wsX12_actOf (wsV RX12 67 RX12 yX12_ofPasser wsX12_ofPasser) := goodIn_app (goodIn_of _ (by decide +kernel)) ggX12_actOf_X12_ofPasser
set_option maxRecDepth 20000 in
theorem ggX12_actOf_X12_takeOne : GoodIn wsX12_actOf wsX12_takeOne := goodIn_r _ [9] (by decide +kernel) (by decide +kernel)
set_option maxRecDepth 20000 in
theorem gX12_actOf_X12_takeOne : GoodIn wsX12_actOf (va_wsS RX12 152 yX12_takeOne wsX12_takeOne) := goodIn_app (goodIn_of _ (by decide +kernel)) ggX12_actOf_X12_takeOne
set_option maxRecDepth 20000 in
theorem ggX12_actOf_X12_layOne : GoodIn wsX12_actOf wsX12_layOne := goodIn_r _ [12] (by decide +kernel) (by decide +kernel)
set_option maxRecDepth 20000 in
theorem gX12_actOf_X12_layOne : GoodIn wsX12_actOf (va_wsS RX12 155 yX12_layOne wsX12_layOne) := goodIn_app (goodIn_of _ (by decide +kernel)) ggX12_actOf_X12_layOne
theorem dX12_actOf_0 : decode cX12_actOf 0 = .ok (.aload_n 0, 1) := by decide +kernel
theorem dX12_actOf_1 : decode cX12_actOf 1 = .ok (.iload_n 1, 1) := by decide +kernel
theorem dX12_actOf_2 : decode cX12_actOf 2 = .ok (.iconst 1, 1) := by decide +kernel
theorem dX12_actOf_3 : decode cX12_actOf 3 = .ok (.invokevirtual 67, 3) := by decide +kernel
theorem dX12_actOf_6 : decode cX12_actOf 6 = .ok (.istore 4, 2) := by decide +kernel
theorem dX12_actOf_8 : decode cX12_actOf 8 = .ok (.aload_n 0, 1) := by decide +kernel
theorem dX12_actOf_9 : decode cX12_actOf 9 = .ok (.iload_n 1, 1) := by decide +kernel
theorem dX12_actOf_10 : decode cX12_actOf 10 = .ok (.iconst 2, 1) := by decide +kernel
theorem dX12_actOf_11 : decode cX12_actOf 11 = .ok (.invokevirtual 67, 3) := by decide +kernel
theorem dX12_actOf_14 : decode cX12_actOf 14 = .ok (.iconst 1, 1) := by decide +kernel
theorem dX12_actOf_15 : decode cX12_actOf 15 = .ok (.if_icmp .ne 7, 3) := by decide +kernel
theorem dX12_actOf_18 : decode cX12_actOf 18 = .ok (.iconst 1, 1) := by decide +kernel
theorem dX12_actOf_19 : decode cX12_actOf 19 = .ok (.goto 4, 3) := by decide +kernel
theorem dX12_actOf_22 : decode cX12_actOf 22 = .ok (.iconst 0, 1) := by decide +kernel
theorem dX12_actOf_23 : decode cX12_actOf 23 = .ok (.istore 5, 2) := by decide +kernel
theorem dX12_actOf_25 : decode cX12_actOf 25 = .ok (.aload_n 0, 1) := by decide +kernel
theorem dX12_actOf_26 : decode cX12_actOf 26 = .ok (.iload_n 1, 1) := by decide +kernel
theorem dX12_actOf_27 : decode cX12_actOf 27 = .ok (.iconst 3, 1) := by decide +kernel
theorem dX12_actOf_28 : decode cX12_actOf 28 = .ok (.invokevirtual 67, 3) := by decide +kernel
theorem dX12_actOf_31 : decode cX12_actOf 31 = .ok (.istore 6, 2) := by decide +kernel
theorem dX12_actOf_33 : decode cX12_actOf 33 = .ok (.iload 4, 2) := by decide +kernel
theorem dX12_actOf_35 : decode cX12_actOf 35 = .ok (.tableswitch 97 0 4 #[33, 38, 97, 55, 84], 33) := by decide +kernel
theorem dX12_actOf_68 : decode cX12_actOf 68 = .ok (.iload_n 2, 1) := by decide +kernel
theorem dX12_actOf_69 : decode cX12_actOf 69 = .ok (.invokestatic 152, 3) := by decide +kernel
theorem dX12_actOf_72 : decode cX12_actOf 72 = .ok (.ireturn, 1) := by decide +kernel
theorem dX12_actOf_73 : decode cX12_actOf 73 = .ok (.iload 5, 2) := by decide +kernel
theorem dX12_actOf_75 : decode cX12_actOf 75 = .ok (.ifCond .eq 10, 3) := by decide +kernel
theorem dX12_actOf_78 : decode cX12_actOf 78 = .ok (.iload_n 2, 1) := by decide +kernel
theorem dX12_actOf_79 : decode cX12_actOf 79 = .ok (.invokestatic 155, 3) := by decide +kernel
theorem dX12_actOf_82 : decode cX12_actOf 82 = .ok (.goto 7, 3) := by decide +kernel
theorem dX12_actOf_85 : decode cX12_actOf 85 = .ok (.iload_n 2, 1) := by decide +kernel
theorem dX12_actOf_86 : decode cX12_actOf 86 = .ok (.invokestatic 152, 3) := by decide +kernel
theorem dX12_actOf_89 : decode cX12_actOf 89 = .ok (.ireturn, 1) := by decide +kernel
theorem dX12_actOf_90 : decode cX12_actOf 90 = .ok (.iload_n 3, 1) := by decide +kernel
theorem dX12_actOf_91 : decode cX12_actOf 91 = .ok (.ifCond .le 10, 3) := by decide +kernel
theorem dX12_actOf_94 : decode cX12_actOf 94 = .ok (.iload_n 2, 1) := by decide +kernel
theorem dX12_actOf_95 : decode cX12_actOf 95 = .ok (.invokestatic 152, 3) := by decide +kernel
theorem dX12_actOf_98 : decode cX12_actOf 98 = .ok (.goto 20, 3) := by decide +kernel
theorem dX12_actOf_101 : decode cX12_actOf 101 = .ok (.iload_n 3, 1) := by decide +kernel
theorem dX12_actOf_102 : decode cX12_actOf 102 = .ok (.ifCond .ge 15, 3) := by decide +kernel
theorem dX12_actOf_105 : decode cX12_actOf 105 = .ok (.iload 5, 2) := by decide +kernel
theorem dX12_actOf_107 : decode cX12_actOf 107 = .ok (.ifCond .eq 10, 3) := by decide +kernel
theorem dX12_actOf_110 : decode cX12_actOf 110 = .ok (.iload_n 2, 1) := by decide +kernel
theorem dX12_actOf_111 : decode cX12_actOf 111 = .ok (.invokestatic 155, 3) := by decide +kernel
theorem dX12_actOf_114 : decode cX12_actOf 114 = .ok (.goto 4, 3) := by decide +kernel
theorem dX12_actOf_117 : decode cX12_actOf 117 = .ok (.iconst 0, 1) := by decide +kernel
theorem dX12_actOf_118 : decode cX12_actOf 118 = .ok (.ireturn, 1) := by decide +kernel
theorem dX12_actOf_119 : decode cX12_actOf 119 = .ok (.iload_n 2, 1) := by decide +kernel
theorem dX12_actOf_120 : decode cX12_actOf 120 = .ok (.iconst 1, 1) := by decide +kernel
theorem dX12_actOf_121 : decode cX12_actOf 121 = .ok (.if_icmp .le 8, 3) := by decide +kernel
theorem dX12_actOf_124 : decode cX12_actOf 124 = .ok (.bipush (-2), 2) := by decide +kernel
theorem dX12_actOf_126 : decode cX12_actOf 126 = .ok (.goto 5, 3) := by decide +kernel
theorem dX12_actOf_129 : decode cX12_actOf 129 = .ok (.iload_n 2, 1) := by decide +kernel
theorem dX12_actOf_130 : decode cX12_actOf 130 = .ok (.ineg, 1) := by decide +kernel
theorem dX12_actOf_131 : decode cX12_actOf 131 = .ok (.ireturn, 1) := by decide +kernel
theorem dX12_actOf_132 : decode cX12_actOf 132 = .ok (.iload 4, 2) := by decide +kernel
theorem dX12_actOf_134 : decode cX12_actOf 134 = .ok (.iconst 5, 1) := by decide +kernel
theorem dX12_actOf_135 : decode cX12_actOf 135 = .ok (.if_icmp .ne 17, 3) := by decide +kernel
theorem dX12_actOf_138 : decode cX12_actOf 138 = .ok (.aload_n 0, 1) := by decide +kernel
theorem dX12_actOf_139 : decode cX12_actOf 139 = .ok (.iload_n 1, 1) := by decide +kernel
theorem dX12_actOf_140 : decode cX12_actOf 140 = .ok (.iconst 0, 1) := by decide +kernel
theorem dX12_actOf_141 : decode cX12_actOf 141 = .ok (.invokevirtual 67, 3) := by decide +kernel
theorem dX12_actOf_144 : decode cX12_actOf 144 = .ok (.iconst 2, 1) := by decide +kernel
theorem dX12_actOf_145 : decode cX12_actOf 145 = .ok (.irem, 1) := by decide +kernel
theorem dX12_actOf_146 : decode cX12_actOf 146 = .ok (.iconst 1, 1) := by decide +kernel
theorem dX12_actOf_147 : decode cX12_actOf 147 = .ok (.if_icmp .ne 5, 3) := by decide +kernel
theorem dX12_actOf_150 : decode cX12_actOf 150 = .ok (.iconst 0, 1) := by decide +kernel
theorem dX12_actOf_151 : decode cX12_actOf 151 = .ok (.ireturn, 1) := by decide +kernel
theorem dX12_actOf_152 : decode cX12_actOf 152 = .ok (.iload_n 2, 1) := by decide +kernel
theorem dX12_actOf_153 : decode cX12_actOf 153 = .ok (.iload 6, 2) := by decide +kernel
theorem dX12_actOf_155 : decode cX12_actOf 155 = .ok (.if_icmp .le 10, 3) := by decide +kernel
theorem dX12_actOf_158 : decode cX12_actOf 158 = .ok (.iload_n 2, 1) := by decide +kernel
theorem dX12_actOf_159 : decode cX12_actOf 159 = .ok (.invokestatic 152, 3) := by decide +kernel
theorem dX12_actOf_162 : decode cX12_actOf 162 = .ok (.goto 22, 3) := by decide +kernel
theorem dX12_actOf_165 : decode cX12_actOf 165 = .ok (.iload_n 2, 1) := by decide +kernel
theorem dX12_actOf_166 : decode cX12_actOf 166 = .ok (.iload 6, 2) := by decide +kernel
theorem dX12_actOf_168 : decode cX12_actOf 168 = .ok (.if_icmp .ge 15, 3) := by decide +kernel
theorem dX12_actOf_171 : decode cX12_actOf 171 = .ok (.iload 5, 2) := by decide +kernel
theorem dX12_actOf_173 : decode cX12_actOf 173 = .ok (.ifCond .eq 10, 3) := by decide +kernel
theorem dX12_actOf_176 : decode cX12_actOf 176 = .ok (.iload_n 2, 1) := by decide +kernel
theorem dX12_actOf_177 : decode cX12_actOf 177 = .ok (.invokestatic 155, 3) := by decide +kernel
theorem dX12_actOf_180 : decode cX12_actOf 180 = .ok (.goto 4, 3) := by decide +kernel
theorem dX12_actOf_183 : decode cX12_actOf 183 = .ok (.iconst 0, 1) := by decide +kernel
theorem dX12_actOf_184 : decode cX12_actOf 184 = .ok (.ireturn, 1) := by decide +kernel
set_option maxRecDepth 20000 in
theorem ggX12_heightIn_X12_ofPasser : GoodIn wsX12_heightIn wsX12_ofPasser := goodIn_r _ [7, 1, 18, 19, 20, 21, 22, 23, 24, 25, 26, 27, 28, 29, 30, 31, 32, 33, 34, 35, 36, 37, 38, 39, 40] (by decide +kernel) (by decide +kernel)
set_option maxRecDepth 20000 in
theorem gX12_heightIn_X12_ofPasser : GoodIn wsX12_heightIn (wsV RX12 67 RX12 yX12_ofPasser wsX12_ofPasser) := goodIn_app (goodIn_of _ (by decide +kernel)) ggX12_heightIn_X12_ofPasser
set_option maxRecDepth 20000 in
theorem ggX12_heightIn_X12_actOf : GoodIn wsX12_heightIn wsX12_actOf := goodIn_r _ [11, 3, 4, 5, 6, 7, 1, 12, 13, 14, 15, 16, 17, 18, 19, 20, 21, 22, 23, 24, 25, 26, 27, 28, 29, 30, 31, 32, 33, 34, 35, 36, 37, 38, 39, 40] (by decide +kernel) (by decide +kernel)
set_option maxRecDepth 20000 in
theorem gX12_heightIn_X12_actOf : GoodIn wsX12_heightIn (wsV RX12 158 RX12 yX12_actOf wsX12_actOf) := goodIn_app (goodIn_of _ (by decide +kernel)) ggX12_heightIn_X12_actOf
theorem dX12_heightIn_0 : decode cX12_heightIn 0 = .ok (.aload_n 0, 1) := by decide +kernel
theorem dX12_heightIn_1 : decode cX12_heightIn 1 = .ok (.getfield 7, 3) := by decide +kernel
theorem dX12_heightIn_4 : decode cX12_heightIn 4 = .ok (.iconst 0, 1) := by decide +kernel
theorem dX12_heightIn_5 : decode cX12_heightIn 5 = .ok (.iaload, 1) := by decide +kernel
theorem dX12_heightIn_6 : decode cX12_heightIn 6 = .ok (.istore_n 2, 1) := by decide +kernel
theorem dX12_heightIn_7 : decode cX12_heightIn 7 = .ok (.iconst 0, 1) := by decide +kernel
theorem dX12_heightIn_8 : decode cX12_heightIn 8 = .ok (.istore_n 3, 1) := by decide +kernel
theorem dX12_heightIn_9 : decode cX12_heightIn 9 = .ok (.iconst 0, 1) := by decide +kernel
theorem dX12_heightIn_10 : decode cX12_heightIn 10 = .ok (.istore 4, 2) := by decide +kernel
theorem dX12_heightIn_12 : decode cX12_heightIn 12 = .ok (.iload 4, 2) := by decide +kernel
theorem dX12_heightIn_14 : decode cX12_heightIn 14 = .ok (.aload_n 0, 1) := by decide +kernel
theorem dX12_heightIn_15 : decode cX12_heightIn 15 = .ok (.getfield 7, 3) := by decide +kernel
theorem dX12_heightIn_18 : decode cX12_heightIn 18 = .ok (.iconst 2, 1) := by decide +kernel
theorem dX12_heightIn_19 : decode cX12_heightIn 19 = .ok (.iaload, 1) := by decide +kernel
theorem dX12_heightIn_20 : decode cX12_heightIn 20 = .ok (.if_icmp .ge 49, 3) := by decide +kernel
theorem dX12_heightIn_23 : decode cX12_heightIn 23 = .ok (.aload_n 0, 1) := by decide +kernel
theorem dX12_heightIn_24 : decode cX12_heightIn 24 = .ok (.getfield 27, 3) := by decide +kernel
theorem dX12_heightIn_27 : decode cX12_heightIn 27 = .ok (.iload 4, 2) := by decide +kernel
theorem dX12_heightIn_29 : decode cX12_heightIn 29 = .ok (.iconst 0, 1) := by decide +kernel
theorem dX12_heightIn_30 : decode cX12_heightIn 30 = .ok (.iastore, 1) := by decide +kernel
theorem dX12_heightIn_31 : decode cX12_heightIn 31 = .ok (.aload_n 0, 1) := by decide +kernel
theorem dX12_heightIn_32 : decode cX12_heightIn 32 = .ok (.iload 4, 2) := by decide +kernel
theorem dX12_heightIn_34 : decode cX12_heightIn 34 = .ok (.iconst 0, 1) := by decide +kernel
theorem dX12_heightIn_35 : decode cX12_heightIn 35 = .ok (.invokevirtual 67, 3) := by decide +kernel
theorem dX12_heightIn_38 : decode cX12_heightIn 38 = .ok (.iload_n 1, 1) := by decide +kernel
theorem dX12_heightIn_39 : decode cX12_heightIn 39 = .ok (.if_icmp .gt 24, 3) := by decide +kernel
theorem dX12_heightIn_42 : decode cX12_heightIn 42 = .ok (.aload_n 0, 1) := by decide +kernel
theorem dX12_heightIn_43 : decode cX12_heightIn 43 = .ok (.iload 4, 2) := by decide +kernel
theorem dX12_heightIn_45 : decode cX12_heightIn 45 = .ok (.iload_n 2, 1) := by decide +kernel
theorem dX12_heightIn_46 : decode cX12_heightIn 46 = .ok (.iload_n 3, 1) := by decide +kernel
theorem dX12_heightIn_47 : decode cX12_heightIn 47 = .ok (.invokevirtual 158, 3) := by decide +kernel
theorem dX12_heightIn_50 : decode cX12_heightIn 50 = .ok (.istore_n 3, 1) := by decide +kernel
theorem dX12_heightIn_51 : decode cX12_heightIn 51 = .ok (.aload_n 0, 1) := by decide +kernel
theorem dX12_heightIn_52 : decode cX12_heightIn 52 = .ok (.getfield 27, 3) := by decide +kernel
theorem dX12_heightIn_55 : decode cX12_heightIn 55 = .ok (.iload 4, 2) := by decide +kernel
theorem dX12_heightIn_57 : decode cX12_heightIn 57 = .ok (.iload_n 3, 1) := by decide +kernel
theorem dX12_heightIn_58 : decode cX12_heightIn 58 = .ok (.iastore, 1) := by decide +kernel
theorem dX12_heightIn_59 : decode cX12_heightIn 59 = .ok (.iload_n 2, 1) := by decide +kernel
theorem dX12_heightIn_60 : decode cX12_heightIn 60 = .ok (.iload_n 3, 1) := by decide +kernel
theorem dX12_heightIn_61 : decode cX12_heightIn 61 = .ok (.iadd, 1) := by decide +kernel
theorem dX12_heightIn_62 : decode cX12_heightIn 62 = .ok (.istore_n 2, 1) := by decide +kernel
theorem dX12_heightIn_63 : decode cX12_heightIn 63 = .ok (.iinc 4 1, 3) := by decide +kernel
theorem dX12_heightIn_66 : decode cX12_heightIn 66 = .ok (.goto (-54), 3) := by decide +kernel
theorem dX12_heightIn_69 : decode cX12_heightIn 69 = .ok (.iload_n 2, 1) := by decide +kernel
theorem dX12_heightIn_70 : decode cX12_heightIn 70 = .ok (.ireturn, 1) := by decide +kernel
set_option maxRecDepth 20000 in
theorem ggX12_height_X12_in : GoodIn wsX12_height wsX12_in := goodIn_r _ [4] (by decide +kernel) (by decide +kernel)
set_option maxRecDepth 20000 in
theorem gX12_height_X12_in : GoodIn wsX12_height (va_wsS RX12 63 yX12_in wsX12_in) := goodIn_app (goodIn_of _ (by decide +kernel)) ggX12_height_X12_in
set_option maxRecDepth 20000 in
theorem ggX12_height_X12_heightIn : GoodIn wsX12_height wsX12_heightIn := goodIn_r _ [8, 9, 10, 11, 12, 13, 3, 14, 15, 16, 17, 18, 19, 20, 21, 22, 23, 24, 30, 31, 32, 33, 34, 35, 36, 37, 38, 39, 40, 41, 42, 43, 44, 45, 46, 47, 48, 49, 50, 51, 52] (by decide +kernel) (by decide +kernel)
set_option maxRecDepth 20000 in
theorem gX12_height_X12_heightIn : GoodIn wsX12_height (wsV RX12 161 RX12 yX12_heightIn wsX12_heightIn) := goodIn_app (goodIn_of _ (by decide +kernel)) ggX12_height_X12_heightIn
set_option maxRecDepth 20000 in
theorem ggX12_height_X12_bad : GoodIn wsX12_height wsX12_bad := goodIn_r _ [28, 29, 30, 31, 32, 33, 34, 35, 36, 37, 38, 39, 40, 41, 42, 43, 44, 45, 46, 47, 48, 49, 50, 51, 52] (by decide +kernel) (by decide +kernel)
set_option maxRecDepth 20000 in
theorem gX12_height_X12_bad : GoodIn wsX12_height (wsV RX12 56 RX12 yX12_bad wsX12_bad) := goodIn_app (goodIn_of _ (by decide +kernel)) ggX12_height_X12_bad
theorem dX12_height_0 : decode cX12_height 0 = .ok (.iload_n 1, 1) := by decide +kernel
theorem dX12_height_1 : decode cX12_height 1 = .ok (.iconst 0, 1) := by decide +kernel
theorem dX12_height_2 : decode cX12_height 2 = .ok (.bipush 99, 2) := by decide +kernel
theorem dX12_height_4 : decode cX12_height 4 = .ok (.invokestatic 63, 3) := by decide +kernel
theorem dX12_height_7 : decode cX12_height 7 = .ok (.ifCond .eq 11, 3) := by decide +kernel
theorem dX12_height_10 : decode cX12_height 10 = .ok (.aload_n 0, 1) := by decide +kernel
theorem dX12_height_11 : decode cX12_height 11 = .ok (.iload_n 1, 1) := by decide +kernel
theorem dX12_height_12 : decode cX12_height 12 = .ok (.invokevirtual 161, 3) := by decide +kernel
theorem dX12_height_15 : decode cX12_height 15 = .ok (.goto 7, 3) := by decide +kernel
theorem dX12_height_18 : decode cX12_height 18 = .ok (.aload_n 0, 1) := by decide +kernel
theorem dX12_height_19 : decode cX12_height 19 = .ok (.invokevirtual 56, 3) := by decide +kernel
theorem dX12_height_22 : decode cX12_height 22 = .ok (.ireturn, 1) := by decide +kernel
set_option maxRecDepth 20000 in
theorem ggX12_does_X12_isPasser : GoodIn wsX12_does wsX12_isPasser := goodIn_r _ [6, 7, 8, 9, 5, 10, 34, 35, 36, 37, 38, 39, 40, 41, 42, 43, 44, 45, 46, 47, 48, 49, 50, 51, 52, 53, 54, 55, 56] (by decide +kernel) (by decide +kernel)
set_option maxRecDepth 20000 in
theorem gX12_does_X12_isPasser : GoodIn wsX12_does (wsV RX12 91 RX12 yX12_isPasser wsX12_isPasser) := goodIn_app (goodIn_of _ (by decide +kernel)) ggX12_does_X12_isPasser
set_option maxRecDepth 20000 in
theorem ggX12_does_X12_bad : GoodIn wsX12_does wsX12_bad := goodIn_r _ [14, 15, 34, 35, 36, 37, 38, 39, 40, 41, 42, 43, 44, 45, 46, 47, 48, 49, 50, 51, 52, 53, 54, 55, 56] (by decide +kernel) (by decide +kernel)
set_option maxRecDepth 20000 in
theorem gX12_does_X12_bad : GoodIn wsX12_does (wsV RX12 56 RX12 yX12_bad wsX12_bad) := goodIn_app (goodIn_of _ (by decide +kernel)) ggX12_does_X12_bad
set_option maxRecDepth 20000 in
theorem ggX12_does_X12_heightIn : GoodIn wsX12_does wsX12_heightIn := goodIn_r _ [19, 7, 1, 20, 21, 22, 5, 23, 24, 25, 26, 27, 28, 29, 30, 31, 32, 33, 34, 35, 36, 37, 38, 39, 40, 41, 42, 43, 44, 45, 46, 47, 48, 49, 50, 51, 52, 53, 54, 55, 56] (by decide +kernel) (by decide +kernel)
set_option maxRecDepth 20000 in
theorem gX12_does_X12_heightIn : GoodIn wsX12_does (wsV RX12 161 RX12 yX12_heightIn wsX12_heightIn) := goodIn_app (goodIn_of _ (by decide +kernel)) ggX12_does_X12_heightIn
theorem dX12_does_0 : decode cX12_does 0 = .ok (.aload_n 0, 1) := by decide +kernel
theorem dX12_does_1 : decode cX12_does 1 = .ok (.iload_n 1, 1) := by decide +kernel
theorem dX12_does_2 : decode cX12_does 2 = .ok (.invokevirtual 91, 3) := by decide +kernel
theorem dX12_does_5 : decode cX12_does 5 = .ok (.ifCond .ne 11, 3) := by decide +kernel
theorem dX12_does_8 : decode cX12_does 8 = .ok (.aload_n 0, 1) := by decide +kernel
theorem dX12_does_9 : decode cX12_does 9 = .ok (.invokevirtual 56, 3) := by decide +kernel
theorem dX12_does_12 : decode cX12_does 12 = .ok (.pop, 1) := by decide +kernel
theorem dX12_does_13 : decode cX12_does 13 = .ok (.bipush (-10), 2) := by decide +kernel
theorem dX12_does_15 : decode cX12_does 15 = .ok (.ireturn, 1) := by decide +kernel
theorem dX12_does_16 : decode cX12_does 16 = .ok (.aload_n 0, 1) := by decide +kernel
theorem dX12_does_17 : decode cX12_does 17 = .ok (.bipush 99, 2) := by decide +kernel
theorem dX12_does_19 : decode cX12_does 19 = .ok (.invokevirtual 161, 3) := by decide +kernel
theorem dX12_does_22 : decode cX12_does 22 = .ok (.pop, 1) := by decide +kernel
theorem dX12_does_23 : decode cX12_does 23 = .ok (.aload_n 0, 1) := by decide +kernel
theorem dX12_does_24 : decode cX12_does 24 = .ok (.getfield 27, 3) := by decide +kernel
theorem dX12_does_27 : decode cX12_does 27 = .ok (.iload_n 1, 1) := by decide +kernel
theorem dX12_does_28 : decode cX12_does 28 = .ok (.iaload, 1) := by decide +kernel
theorem dX12_does_29 : decode cX12_does 29 = .ok (.ireturn, 1) := by decide +kernel
set_option maxRecDepth 20000 in
theorem ggX12_over_X12_in : GoodIn wsX12_over wsX12_in := goodIn_r _ [5] (by decide +kernel) (by decide +kernel)
set_option maxRecDepth 20000 in
theorem gX12_over_X12_in : GoodIn wsX12_over (va_wsS RX12 63 yX12_in wsX12_in) := goodIn_app (goodIn_of _ (by decide +kernel)) ggX12_over_X12_in
set_option maxRecDepth 20000 in
theorem ggX12_over_X12_bad : GoodIn wsX12_over wsX12_bad := goodIn_r _ [9, 10, 30, 31, 32, 33, 34, 35, 36, 37, 38, 39, 40, 41, 42, 43, 44, 45, 46, 47, 48, 49, 50, 51, 52] (by decide +kernel) (by decide +kernel)
set_option maxRecDepth 20000 in
theorem gX12_over_X12_bad : GoodIn wsX12_over (wsV RX12 56 RX12 yX12_bad wsX12_bad) := goodIn_app (goodIn_of _ (by decide +kernel)) ggX12_over_X12_bad
set_option maxRecDepth 20000 in
theorem ggX12_over_X12_heightIn : GoodIn wsX12_over wsX12_heightIn := goodIn_r _ [14, 1, 15, 16, 17, 18, 4, 19, 20, 21, 22, 23, 24, 25, 26, 27, 28, 29, 30, 31, 32, 33, 34, 35, 36, 37, 38, 39, 40, 41, 42, 43, 44, 45, 46, 47, 48, 49, 50, 51, 52] (by decide +kernel) (by decide +kernel)
set_option maxRecDepth 20000 in
theorem gX12_over_X12_heightIn : GoodIn wsX12_over (wsV RX12 161 RX12 yX12_heightIn wsX12_heightIn) := goodIn_app (goodIn_of _ (by decide +kernel)) ggX12_over_X12_heightIn
theorem dX12_over_0 : decode cX12_over 0 = .ok (.iload_n 1, 1) := by decide +kernel
theorem dX12_over_1 : decode cX12_over 1 = .ok (.iconst 0, 1) := by decide +kernel
theorem dX12_over_2 : decode cX12_over 2 = .ok (.aload_n 0, 1) := by decide +kernel
theorem dX12_over_3 : decode cX12_over 3 = .ok (.getfield 7, 3) := by decide +kernel
theorem dX12_over_6 : decode cX12_over 6 = .ok (.iconst 3, 1) := by decide +kernel
theorem dX12_over_7 : decode cX12_over 7 = .ok (.iaload, 1) := by decide +kernel
theorem dX12_over_8 : decode cX12_over 8 = .ok (.iconst 1, 1) := by decide +kernel
theorem dX12_over_9 : decode cX12_over 9 = .ok (.isub, 1) := by decide +kernel
theorem dX12_over_10 : decode cX12_over 10 = .ok (.invokestatic 63, 3) := by decide +kernel
theorem dX12_over_13 : decode cX12_over 13 = .ok (.ifCond .ne 8, 3) := by decide +kernel
theorem dX12_over_16 : decode cX12_over 16 = .ok (.aload_n 0, 1) := by decide +kernel
theorem dX12_over_17 : decode cX12_over 17 = .ok (.invokevirtual 56, 3) := by decide +kernel
theorem dX12_over_20 : decode cX12_over 20 = .ok (.ireturn, 1) := by decide +kernel
theorem dX12_over_21 : decode cX12_over 21 = .ok (.aload_n 0, 1) := by decide +kernel
theorem dX12_over_22 : decode cX12_over 22 = .ok (.aload_n 0, 1) := by decide +kernel
theorem dX12_over_23 : decode cX12_over 23 = .ok (.getfield 7, 3) := by decide +kernel
theorem dX12_over_26 : decode cX12_over 26 = .ok (.bipush 78, 2) := by decide +kernel
theorem dX12_over_28 : decode cX12_over 28 = .ok (.iconst 2, 1) := by decide +kernel
theorem dX12_over_29 : decode cX12_over 29 = .ok (.iload_n 1, 1) := by decide +kernel
theorem dX12_over_30 : decode cX12_over 30 = .ok (.imul, 1) := by decide +kernel
theorem dX12_over_31 : decode cX12_over 31 = .ok (.iadd, 1) := by decide +kernel
theorem dX12_over_32 : decode cX12_over 32 = .ok (.iaload, 1) := by decide +kernel
theorem dX12_over_33 : decode cX12_over 33 = .ok (.invokevirtual 161, 3) := by decide +kernel
theorem dX12_over_36 : decode cX12_over 36 = .ok (.aload_n 0, 1) := by decide +kernel
theorem dX12_over_37 : decode cX12_over 37 = .ok (.getfield 7, 3) := by decide +kernel
theorem dX12_over_40 : decode cX12_over 40 = .ok (.bipush 78, 2) := by decide +kernel
theorem dX12_over_42 : decode cX12_over 42 = .ok (.iconst 2, 1) := by decide +kernel
theorem dX12_over_43 : decode cX12_over 43 = .ok (.iload_n 1, 1) := by decide +kernel
theorem dX12_over_44 : decode cX12_over 44 = .ok (.imul, 1) := by decide +kernel
theorem dX12_over_45 : decode cX12_over 45 = .ok (.iadd, 1) := by decide +kernel
theorem dX12_over_46 : decode cX12_over 46 = .ok (.iconst 1, 1) := by decide +kernel
theorem dX12_over_47 : decode cX12_over 47 = .ok (.iadd, 1) := by decide +kernel
theorem dX12_over_48 : decode cX12_over 48 = .ok (.iaload, 1) := by decide +kernel
theorem dX12_over_49 : decode cX12_over 49 = .ok (.if_icmp .gt 7, 3) := by decide +kernel
theorem dX12_over_52 : decode cX12_over 52 = .ok (.iconst 1, 1) := by decide +kernel
theorem dX12_over_53 : decode cX12_over 53 = .ok (.goto 4, 3) := by decide +kernel
theorem dX12_over_56 : decode cX12_over 56 = .ok (.iconst 0, 1) := by decide +kernel
theorem dX12_over_57 : decode cX12_over 57 = .ok (.ireturn, 1) := by decide +kernel
set_option maxRecDepth 20000 in
theorem ggX12_through_X12_heightIn : GoodIn wsX12_through wsX12_heightIn := goodIn_r _ [7, 1, 2, 8, 9, 10, 6, 11, 12, 13, 14, 15, 16, 17, 18, 19, 20, 21, 22, 23, 24, 25, 26, 27, 28, 29, 30, 31, 32, 33, 34, 35, 36, 37, 38, 39, 40, 41, 42, 43, 44] (by decide +kernel) (by decide +kernel)
set_option maxRecDepth 20000 in
theorem gX12_through_X12_heightIn : GoodIn wsX12_through (wsV RX12 161 RX12 yX12_heightIn wsX12_heightIn) := goodIn_app (goodIn_of _ (by decide +kernel)) ggX12_through_X12_heightIn
theorem dX12_through_0 : decode cX12_through 0 = .ok (.aload_n 0, 1) := by decide +kernel
theorem dX12_through_1 : decode cX12_through 1 = .ok (.getfield 7, 3) := by decide +kernel
theorem dX12_through_4 : decode cX12_through 4 = .ok (.iconst 0, 1) := by decide +kernel
theorem dX12_through_5 : decode cX12_through 5 = .ok (.iaload, 1) := by decide +kernel
theorem dX12_through_6 : decode cX12_through 6 = .ok (.istore_n 1, 1) := by decide +kernel
theorem dX12_through_7 : decode cX12_through 7 = .ok (.iload_n 1, 1) := by decide +kernel
theorem dX12_through_8 : decode cX12_through 8 = .ok (.aload_n 0, 1) := by decide +kernel
theorem dX12_through_9 : decode cX12_through 9 = .ok (.getfield 7, 3) := by decide +kernel
theorem dX12_through_12 : decode cX12_through 12 = .ok (.iconst 1, 1) := by decide +kernel
theorem dX12_through_13 : decode cX12_through 13 = .ok (.iaload, 1) := by decide +kernel
theorem dX12_through_14 : decode cX12_through 14 = .ok (.if_icmp .gt 6, 3) := by decide +kernel
theorem dX12_through_17 : decode cX12_through 17 = .ok (.bipush (-5), 2) := by decide +kernel
theorem dX12_through_19 : decode cX12_through 19 = .ok (.ireturn, 1) := by decide +kernel
theorem dX12_through_20 : decode cX12_through 20 = .ok (.aload_n 0, 1) := by decide +kernel
theorem dX12_through_21 : decode cX12_through 21 = .ok (.bipush 99, 2) := by decide +kernel
theorem dX12_through_23 : decode cX12_through 23 = .ok (.invokevirtual 161, 3) := by decide +kernel
theorem dX12_through_26 : decode cX12_through 26 = .ok (.pop, 1) := by decide +kernel
theorem dX12_through_27 : decode cX12_through 27 = .ok (.iconst 0, 1) := by decide +kernel
theorem dX12_through_28 : decode cX12_through 28 = .ok (.istore_n 2, 1) := by decide +kernel
theorem dX12_through_29 : decode cX12_through 29 = .ok (.iload_n 2, 1) := by decide +kernel
theorem dX12_through_30 : decode cX12_through 30 = .ok (.aload_n 0, 1) := by decide +kernel
theorem dX12_through_31 : decode cX12_through 31 = .ok (.getfield 7, 3) := by decide +kernel
theorem dX12_through_34 : decode cX12_through 34 = .ok (.iconst 2, 1) := by decide +kernel
theorem dX12_through_35 : decode cX12_through 35 = .ok (.iaload, 1) := by decide +kernel
theorem dX12_through_36 : decode cX12_through 36 = .ok (.if_icmp .ge 30, 3) := by decide +kernel
theorem dX12_through_39 : decode cX12_through 39 = .ok (.iload_n 1, 1) := by decide +kernel
theorem dX12_through_40 : decode cX12_through 40 = .ok (.aload_n 0, 1) := by decide +kernel
theorem dX12_through_41 : decode cX12_through 41 = .ok (.getfield 27, 3) := by decide +kernel
theorem dX12_through_44 : decode cX12_through 44 = .ok (.iload_n 2, 1) := by decide +kernel
theorem dX12_through_45 : decode cX12_through 45 = .ok (.iaload, 1) := by decide +kernel
theorem dX12_through_46 : decode cX12_through 46 = .ok (.iadd, 1) := by decide +kernel
theorem dX12_through_47 : decode cX12_through 47 = .ok (.istore_n 1, 1) := by decide +kernel
theorem dX12_through_48 : decode cX12_through 48 = .ok (.iload_n 1, 1) := by decide +kernel
theorem dX12_through_49 : decode cX12_through 49 = .ok (.aload_n 0, 1) := by decide +kernel
theorem dX12_through_50 : decode cX12_through 50 = .ok (.getfield 7, 3) := by decide +kernel
theorem dX12_through_53 : decode cX12_through 53 = .ok (.iconst 1, 1) := by decide +kernel
theorem dX12_through_54 : decode cX12_through 54 = .ok (.iaload, 1) := by decide +kernel
theorem dX12_through_55 : decode cX12_through 55 = .ok (.if_icmp .gt 5, 3) := by decide +kernel
theorem dX12_through_58 : decode cX12_through 58 = .ok (.iload_n 2, 1) := by decide +kernel
theorem dX12_through_59 : decode cX12_through 59 = .ok (.ireturn, 1) := by decide +kernel
theorem dX12_through_60 : decode cX12_through 60 = .ok (.iinc 2 1, 3) := by decide +kernel
theorem dX12_through_63 : decode cX12_through 63 = .ok (.goto (-34), 3) := by decide +kernel
theorem dX12_through_66 : decode cX12_through 66 = .ok (.iconst (-1), 1) := by decide +kernel
theorem dX12_through_67 : decode cX12_through 67 = .ok (.ireturn, 1) := by decide +kernel
set_option maxRecDepth 20000 in
theorem ggX12_behind_X12_in : GoodIn wsX12_behind wsX12_in := goodIn_r _ [5] (by decide +kernel) (by decide +kernel)
set_option maxRecDepth 20000 in
theorem gX12_behind_X12_in : GoodIn wsX12_behind (va_wsS RX12 63 yX12_in wsX12_in) := goodIn_app (goodIn_of _ (by decide +kernel)) ggX12_behind_X12_in
set_option maxRecDepth 20000 in
theorem ggX12_behind_X12_bad : GoodIn wsX12_behind wsX12_bad := goodIn_r _ [9, 10, 25, 26, 27, 28, 29, 30, 31, 32, 33, 34, 35, 36, 37, 38, 39, 40, 41, 42, 43, 44, 45, 46, 47] (by decide +kernel) (by decide +kernel)
set_option maxRecDepth 20000 in
theorem gX12_behind_X12_bad : GoodIn wsX12_behind (wsV RX12 56 RX12 yX12_bad wsX12_bad) := goodIn_app (goodIn_of _ (by decide +kernel)) ggX12_behind_X12_bad
set_option maxRecDepth 20000 in
theorem ggX12_behind_X12_actOf : GoodIn wsX12_behind wsX12_actOf := goodIn_r _ [14, 15, 16, 17, 4, 18, 1, 19, 20, 21, 22, 23, 24, 25, 26, 27, 28, 29, 30, 31, 32, 33, 34, 35, 36, 37, 38, 39, 40, 41, 42, 43, 44, 45, 46, 47] (by decide +kernel) (by decide +kernel)
set_option maxRecDepth 20000 in
theorem gX12_behind_X12_actOf : GoodIn wsX12_behind (wsV RX12 158 RX12 yX12_actOf wsX12_actOf) := goodIn_app (goodIn_of _ (by decide +kernel)) ggX12_behind_X12_actOf
theorem dX12_behind_0 : decode cX12_behind 0 = .ok (.iload_n 1, 1) := by decide +kernel
theorem dX12_behind_1 : decode cX12_behind 1 = .ok (.iconst 0, 1) := by decide +kernel
theorem dX12_behind_2 : decode cX12_behind 2 = .ok (.bipush 30, 2) := by decide +kernel
theorem dX12_behind_4 : decode cX12_behind 4 = .ok (.invokestatic 63, 3) := by decide +kernel
theorem dX12_behind_7 : decode cX12_behind 7 = .ok (.ifCond .eq 12, 3) := by decide +kernel
theorem dX12_behind_10 : decode cX12_behind 10 = .ok (.iload_n 2, 1) := by decide +kernel
theorem dX12_behind_11 : decode cX12_behind 11 = .ok (.iconst 0, 1) := by decide +kernel
theorem dX12_behind_12 : decode cX12_behind 12 = .ok (.iconst 1, 1) := by decide +kernel
theorem dX12_behind_13 : decode cX12_behind 13 = .ok (.invokestatic 63, 3) := by decide +kernel
theorem dX12_behind_16 : decode cX12_behind 16 = .ok (.ifCond .ne 8, 3) := by decide +kernel
theorem dX12_behind_19 : decode cX12_behind 19 = .ok (.aload_n 0, 1) := by decide +kernel
theorem dX12_behind_20 : decode cX12_behind 20 = .ok (.invokevirtual 56, 3) := by decide +kernel
theorem dX12_behind_23 : decode cX12_behind 23 = .ok (.ireturn, 1) := by decide +kernel
theorem dX12_behind_24 : decode cX12_behind 24 = .ok (.aload_n 0, 1) := by decide +kernel
theorem dX12_behind_25 : decode cX12_behind 25 = .ok (.getfield 7, 3) := by decide +kernel
theorem dX12_behind_28 : decode cX12_behind 28 = .ok (.iconst 0, 1) := by decide +kernel
theorem dX12_behind_29 : decode cX12_behind 29 = .ok (.iaload, 1) := by decide +kernel
theorem dX12_behind_30 : decode cX12_behind 30 = .ok (.istore_n 3, 1) := by decide +kernel
theorem dX12_behind_31 : decode cX12_behind 31 = .ok (.iload_n 1, 1) := by decide +kernel
theorem dX12_behind_32 : decode cX12_behind 32 = .ok (.istore 4, 2) := by decide +kernel
theorem dX12_behind_34 : decode cX12_behind 34 = .ok (.iconst 0, 1) := by decide +kernel
theorem dX12_behind_35 : decode cX12_behind 35 = .ok (.istore 5, 2) := by decide +kernel
theorem dX12_behind_37 : decode cX12_behind 37 = .ok (.iconst 0, 1) := by decide +kernel
theorem dX12_behind_38 : decode cX12_behind 38 = .ok (.istore 6, 2) := by decide +kernel
theorem dX12_behind_40 : decode cX12_behind 40 = .ok (.iload 6, 2) := by decide +kernel
theorem dX12_behind_42 : decode cX12_behind 42 = .ok (.aload_n 0, 1) := by decide +kernel
theorem dX12_behind_43 : decode cX12_behind 43 = .ok (.getfield 7, 3) := by decide +kernel
theorem dX12_behind_46 : decode cX12_behind 46 = .ok (.iconst 2, 1) := by decide +kernel
theorem dX12_behind_47 : decode cX12_behind 47 = .ok (.iaload, 1) := by decide +kernel
theorem dX12_behind_48 : decode cX12_behind 48 = .ok (.if_icmp .ge 65, 3) := by decide +kernel
theorem dX12_behind_51 : decode cX12_behind 51 = .ok (.aload_n 0, 1) := by decide +kernel
theorem dX12_behind_52 : decode cX12_behind 52 = .ok (.iload 6, 2) := by decide +kernel
theorem dX12_behind_54 : decode cX12_behind 54 = .ok (.iload_n 3, 1) := by decide +kernel
theorem dX12_behind_55 : decode cX12_behind 55 = .ok (.iload 5, 2) := by decide +kernel
theorem dX12_behind_57 : decode cX12_behind 57 = .ok (.invokevirtual 158, 3) := by decide +kernel
theorem dX12_behind_60 : decode cX12_behind 60 = .ok (.istore 5, 2) := by decide +kernel
theorem dX12_behind_62 : decode cX12_behind 62 = .ok (.iload 5, 2) := by decide +kernel
theorem dX12_behind_64 : decode cX12_behind 64 = .ok (.ifCond .le 12, 3) := by decide +kernel
theorem dX12_behind_67 : decode cX12_behind 67 = .ok (.iload 4, 2) := by decide +kernel
theorem dX12_behind_69 : decode cX12_behind 69 = .ok (.ifCond .ne 7, 3) := by decide +kernel
theorem dX12_behind_72 : decode cX12_behind 72 = .ok (.iconst 0, 1) := by decide +kernel
theorem dX12_behind_73 : decode cX12_behind 73 = .ok (.goto 5, 3) := by decide +kernel
theorem dX12_behind_76 : decode cX12_behind 76 = .ok (.iload 5, 2) := by decide +kernel
theorem dX12_behind_78 : decode cX12_behind 78 = .ok (.istore 5, 2) := by decide +kernel
theorem dX12_behind_80 : decode cX12_behind 80 = .ok (.iload_n 3, 1) := by decide +kernel
theorem dX12_behind_81 : decode cX12_behind 81 = .ok (.iload 5, 2) := by decide +kernel
theorem dX12_behind_83 : decode cX12_behind 83 = .ok (.iadd, 1) := by decide +kernel
theorem dX12_behind_84 : decode cX12_behind 84 = .ok (.istore_n 3, 1) := by decide +kernel
theorem dX12_behind_85 : decode cX12_behind 85 = .ok (.iload 4, 2) := by decide +kernel
theorem dX12_behind_87 : decode cX12_behind 87 = .ok (.iload 5, 2) := by decide +kernel
theorem dX12_behind_89 : decode cX12_behind 89 = .ok (.isub, 1) := by decide +kernel
theorem dX12_behind_90 : decode cX12_behind 90 = .ok (.bipush 30, 2) := by decide +kernel
theorem dX12_behind_92 : decode cX12_behind 92 = .ok (.if_icmp .le 8, 3) := by decide +kernel
theorem dX12_behind_95 : decode cX12_behind 95 = .ok (.bipush 30, 2) := by decide +kernel
theorem dX12_behind_97 : decode cX12_behind 97 = .ok (.goto 8, 3) := by decide +kernel
theorem dX12_behind_100 : decode cX12_behind 100 = .ok (.iload 4, 2) := by decide +kernel
theorem dX12_behind_102 : decode cX12_behind 102 = .ok (.iload 5, 2) := by decide +kernel
theorem dX12_behind_104 : decode cX12_behind 104 = .ok (.isub, 1) := by decide +kernel
theorem dX12_behind_105 : decode cX12_behind 105 = .ok (.istore 4, 2) := by decide +kernel
theorem dX12_behind_107 : decode cX12_behind 107 = .ok (.iinc 6 1, 3) := by decide +kernel
theorem dX12_behind_110 : decode cX12_behind 110 = .ok (.goto (-70), 3) := by decide +kernel
theorem dX12_behind_113 : decode cX12_behind 113 = .ok (.iload_n 2, 1) := by decide +kernel
theorem dX12_behind_114 : decode cX12_behind 114 = .ok (.ifCond .ne 7, 3) := by decide +kernel
theorem dX12_behind_117 : decode cX12_behind 117 = .ok (.iload_n 3, 1) := by decide +kernel
theorem dX12_behind_118 : decode cX12_behind 118 = .ok (.goto 5, 3) := by decide +kernel
theorem dX12_behind_121 : decode cX12_behind 121 = .ok (.iload 4, 2) := by decide +kernel
theorem dX12_behind_123 : decode cX12_behind 123 = .ok (.ireturn, 1) := by decide +kernel
set_option maxRecDepth 20000 in
theorem ggX12_may_X12_in : GoodIn wsX12_may wsX12_in := goodIn_r _ [5] (by decide +kernel) (by decide +kernel)
set_option maxRecDepth 20000 in
theorem gX12_may_X12_in : GoodIn wsX12_may (va_wsS RX12 63 yX12_in wsX12_in) := goodIn_app (goodIn_of _ (by decide +kernel)) ggX12_may_X12_in
set_option maxRecDepth 20000 in
theorem ggX12_may_X12_bad : GoodIn wsX12_may wsX12_bad := goodIn_r _ [9, 10, 30, 31, 32, 33, 34, 35, 36, 37, 38, 39, 40, 41, 42, 43, 44, 45, 46, 47, 48, 49, 50, 51, 52] (by decide +kernel) (by decide +kernel)
set_option maxRecDepth 20000 in
theorem gX12_may_X12_bad : GoodIn wsX12_may (wsV RX12 56 RX12 yX12_bad wsX12_bad) := goodIn_app (goodIn_of _ (by decide +kernel)) ggX12_may_X12_bad
set_option maxRecDepth 20000 in
theorem ggX12_may_X12_heightIn : GoodIn wsX12_may wsX12_heightIn := goodIn_r _ [14, 1, 15, 16, 17, 18, 4, 19, 20, 21, 22, 23, 24, 25, 26, 27, 28, 29, 30, 31, 32, 33, 34, 35, 36, 37, 38, 39, 40, 41, 42, 43, 44, 45, 46, 47, 48, 49, 50, 51, 52] (by decide +kernel) (by decide +kernel)
set_option maxRecDepth 20000 in
theorem gX12_may_X12_heightIn : GoodIn wsX12_may (wsV RX12 161 RX12 yX12_heightIn wsX12_heightIn) := goodIn_app (goodIn_of _ (by decide +kernel)) ggX12_may_X12_heightIn
set_option maxRecDepth 20000 in
theorem ggX12_may_X12_ofPasser : GoodIn wsX12_may wsX12_ofPasser := goodIn_r _ [19, 1, 30, 31, 32, 33, 34, 35, 36, 37, 38, 39, 40, 41, 42, 43, 44, 45, 46, 47, 48, 49, 50, 51, 52] (by decide +kernel) (by decide +kernel)
set_option maxRecDepth 20000 in
theorem gX12_may_X12_ofPasser : GoodIn wsX12_may (wsV RX12 67 RX12 yX12_ofPasser wsX12_ofPasser) := goodIn_app (goodIn_of _ (by decide +kernel)) ggX12_may_X12_ofPasser
theorem dX12_may_0 : decode cX12_may 0 = .ok (.iload_n 1, 1) := by decide +kernel
theorem dX12_may_1 : decode cX12_may 1 = .ok (.iconst 0, 1) := by decide +kernel
theorem dX12_may_2 : decode cX12_may 2 = .ok (.bipush 99, 2) := by decide +kernel
theorem dX12_may_4 : decode cX12_may 4 = .ok (.invokestatic 63, 3) := by decide +kernel
theorem dX12_may_7 : decode cX12_may 7 = .ok (.ifCond .eq 22, 3) := by decide +kernel
theorem dX12_may_10 : decode cX12_may 10 = .ok (.iload_n 2, 1) := by decide +kernel
theorem dX12_may_11 : decode cX12_may 11 = .ok (.iconst 0, 1) := by decide +kernel
theorem dX12_may_12 : decode cX12_may 12 = .ok (.bipush 30, 2) := by decide +kernel
theorem dX12_may_14 : decode cX12_may 14 = .ok (.invokestatic 63, 3) := by decide +kernel
theorem dX12_may_17 : decode cX12_may 17 = .ok (.ifCond .eq 12, 3) := by decide +kernel
theorem dX12_may_20 : decode cX12_may 20 = .ok (.iload_n 3, 1) := by decide +kernel
theorem dX12_may_21 : decode cX12_may 21 = .ok (.iconst 0, 1) := by decide +kernel
theorem dX12_may_22 : decode cX12_may 22 = .ok (.iconst 1, 1) := by decide +kernel
theorem dX12_may_23 : decode cX12_may 23 = .ok (.invokestatic 63, 3) := by decide +kernel
theorem dX12_may_26 : decode cX12_may 26 = .ok (.ifCond .ne 8, 3) := by decide +kernel
theorem dX12_may_29 : decode cX12_may 29 = .ok (.aload_n 0, 1) := by decide +kernel
theorem dX12_may_30 : decode cX12_may 30 = .ok (.invokevirtual 56, 3) := by decide +kernel
theorem dX12_may_33 : decode cX12_may 33 = .ok (.ireturn, 1) := by decide +kernel
theorem dX12_may_34 : decode cX12_may 34 = .ok (.aload_n 0, 1) := by decide +kernel
theorem dX12_may_35 : decode cX12_may 35 = .ok (.iload_n 1, 1) := by decide +kernel
theorem dX12_may_36 : decode cX12_may 36 = .ok (.invokevirtual 161, 3) := by decide +kernel
theorem dX12_may_39 : decode cX12_may 39 = .ok (.istore 4, 2) := by decide +kernel
theorem dX12_may_41 : decode cX12_may 41 = .ok (.iload 4, 2) := by decide +kernel
theorem dX12_may_43 : decode cX12_may 43 = .ok (.iload_n 2, 1) := by decide +kernel
theorem dX12_may_44 : decode cX12_may 44 = .ok (.if_icmp .ge 10, 3) := by decide +kernel
theorem dX12_may_47 : decode cX12_may 47 = .ok (.iload_n 2, 1) := by decide +kernel
theorem dX12_may_48 : decode cX12_may 48 = .ok (.iload 4, 2) := by decide +kernel
theorem dX12_may_50 : decode cX12_may 50 = .ok (.isub, 1) := by decide +kernel
theorem dX12_may_51 : decode cX12_may 51 = .ok (.goto 7, 3) := by decide +kernel
theorem dX12_may_54 : decode cX12_may 54 = .ok (.iload 4, 2) := by decide +kernel
theorem dX12_may_56 : decode cX12_may 56 = .ok (.iload_n 2, 1) := by decide +kernel
theorem dX12_may_57 : decode cX12_may 57 = .ok (.isub, 1) := by decide +kernel
theorem dX12_may_58 : decode cX12_may 58 = .ok (.istore 5, 2) := by decide +kernel
theorem dX12_may_60 : decode cX12_may 60 = .ok (.iconst (-1), 1) := by decide +kernel
theorem dX12_may_61 : decode cX12_may 61 = .ok (.istore 6, 2) := by decide +kernel
theorem dX12_may_63 : decode cX12_may 63 = .ok (.iconst 0, 1) := by decide +kernel
theorem dX12_may_64 : decode cX12_may 64 = .ok (.istore 7, 2) := by decide +kernel
theorem dX12_may_66 : decode cX12_may 66 = .ok (.iload 7, 2) := by decide +kernel
theorem dX12_may_68 : decode cX12_may 68 = .ok (.aload_n 0, 1) := by decide +kernel
theorem dX12_may_69 : decode cX12_may 69 = .ok (.getfield 7, 3) := by decide +kernel
theorem dX12_may_72 : decode cX12_may 72 = .ok (.iconst 2, 1) := by decide +kernel
theorem dX12_may_73 : decode cX12_may 73 = .ok (.iaload, 1) := by decide +kernel
theorem dX12_may_74 : decode cX12_may 74 = .ok (.if_icmp .ge 29, 3) := by decide +kernel
theorem dX12_may_77 : decode cX12_may 77 = .ok (.aload_n 0, 1) := by decide +kernel
theorem dX12_may_78 : decode cX12_may 78 = .ok (.iload 7, 2) := by decide +kernel
theorem dX12_may_80 : decode cX12_may 80 = .ok (.iconst 0, 1) := by decide +kernel
theorem dX12_may_81 : decode cX12_may 81 = .ok (.invokevirtual 67, 3) := by decide +kernel
theorem dX12_may_84 : decode cX12_may 84 = .ok (.iload_n 1, 1) := by decide +kernel
theorem dX12_may_85 : decode cX12_may 85 = .ok (.if_icmp .gt 8, 3) := by decide +kernel
theorem dX12_may_88 : decode cX12_may 88 = .ok (.iload 7, 2) := by decide +kernel
theorem dX12_may_90 : decode cX12_may 90 = .ok (.goto 5, 3) := by decide +kernel
theorem dX12_may_93 : decode cX12_may 93 = .ok (.iload 6, 2) := by decide +kernel
theorem dX12_may_95 : decode cX12_may 95 = .ok (.istore 6, 2) := by decide +kernel
theorem dX12_may_97 : decode cX12_may 97 = .ok (.iinc 7 1, 3) := by decide +kernel
theorem dX12_may_100 : decode cX12_may 100 = .ok (.goto (-34), 3) := by decide +kernel
theorem dX12_may_103 : decode cX12_may 103 = .ok (.iload_n 3, 1) := by decide +kernel
theorem dX12_may_104 : decode cX12_may 104 = .ok (.iconst 1, 1) := by decide +kernel
theorem dX12_may_105 : decode cX12_may 105 = .ok (.if_icmp .ne 8, 3) := by decide +kernel
theorem dX12_may_108 : decode cX12_may 108 = .ok (.iload 5, 2) := by decide +kernel
theorem dX12_may_110 : decode cX12_may 110 = .ok (.goto 14, 3) := by decide +kernel
theorem dX12_may_113 : decode cX12_may 113 = .ok (.iload 5, 2) := by decide +kernel
theorem dX12_may_115 : decode cX12_may 115 = .ok (.ifCond .ne 7, 3) := by decide +kernel
theorem dX12_may_118 : decode cX12_may 118 = .ok (.iconst (-1), 1) := by decide +kernel
theorem dX12_may_119 : decode cX12_may 119 = .ok (.goto 5, 3) := by decide +kernel
theorem dX12_may_122 : decode cX12_may 122 = .ok (.iload 6, 2) := by decide +kernel
theorem dX12_may_124 : decode cX12_may 124 = .ok (.ireturn, 1) := by decide +kernel
set_option maxRecDepth 20000 in
theorem ggX12_heightBy_X12_ofPasser : GoodIn wsX12_heightBy wsX12_ofPasser := goodIn_r _ [6, 1, 17, 18, 19, 20, 21, 22, 23, 24, 25, 26, 27, 28, 29, 30, 31, 32, 33, 34, 35, 36, 37, 38, 39] (by decide +kernel) (by decide +kernel)
set_option maxRecDepth 20000 in
theorem gX12_heightBy_X12_ofPasser : GoodIn wsX12_heightBy (wsV RX12 67 RX12 yX12_ofPasser wsX12_ofPasser) := goodIn_app (goodIn_of _ (by decide +kernel)) ggX12_heightBy_X12_ofPasser
set_option maxRecDepth 20000 in
theorem ggX12_heightBy_X12_actOf : GoodIn wsX12_heightBy wsX12_actOf := goodIn_r _ [10, 2, 3, 4, 5, 6, 1, 11, 12, 13, 14, 15, 16, 17, 18, 19, 20, 21, 22, 23, 24, 25, 26, 27, 28, 29, 30, 31, 32, 33, 34, 35, 36, 37, 38, 39] (by decide +kernel) (by decide +kernel)
set_option maxRecDepth 20000 in
theorem gX12_heightBy_X12_actOf : GoodIn wsX12_heightBy (wsV RX12 158 RX12 yX12_actOf wsX12_actOf) := goodIn_app (goodIn_of _ (by decide +kernel)) ggX12_heightBy_X12_actOf
set_option maxRecDepth 20000 in
theorem ggX12_heightBy_X12_takeOne : GoodIn wsX12_heightBy wsX12_takeOne := goodIn_r _ [13] (by decide +kernel) (by decide +kernel)
set_option maxRecDepth 20000 in
theorem gX12_heightBy_X12_takeOne : GoodIn wsX12_heightBy (va_wsS RX12 152 yX12_takeOne wsX12_takeOne) := goodIn_app (goodIn_of _ (by decide +kernel)) ggX12_heightBy_X12_takeOne
set_option maxRecDepth 20000 in
theorem ggX12_heightBy_X12_layOne : GoodIn wsX12_heightBy wsX12_layOne := goodIn_r _ [16] (by decide +kernel) (by decide +kernel)
set_option maxRecDepth 20000 in
theorem gX12_heightBy_X12_layOne : GoodIn wsX12_heightBy (va_wsS RX12 155 yX12_layOne wsX12_layOne) := goodIn_app (goodIn_of _ (by decide +kernel)) ggX12_heightBy_X12_layOne
theorem dX12_heightBy_0 : decode cX12_heightBy 0 = .ok (.aload_n 0, 1) := by decide +kernel
theorem dX12_heightBy_1 : decode cX12_heightBy 1 = .ok (.getfield 7, 3) := by decide +kernel
theorem dX12_heightBy_4 : decode cX12_heightBy 4 = .ok (.iconst 0, 1) := by decide +kernel
theorem dX12_heightBy_5 : decode cX12_heightBy 5 = .ok (.iaload, 1) := by decide +kernel
theorem dX12_heightBy_6 : decode cX12_heightBy 6 = .ok (.istore 4, 2) := by decide +kernel
theorem dX12_heightBy_8 : decode cX12_heightBy 8 = .ok (.iconst 0, 1) := by decide +kernel
theorem dX12_heightBy_9 : decode cX12_heightBy 9 = .ok (.istore 5, 2) := by decide +kernel
theorem dX12_heightBy_11 : decode cX12_heightBy 11 = .ok (.iconst 0, 1) := by decide +kernel
theorem dX12_heightBy_12 : decode cX12_heightBy 12 = .ok (.istore 6, 2) := by decide +kernel
theorem dX12_heightBy_14 : decode cX12_heightBy 14 = .ok (.iload 6, 2) := by decide +kernel
theorem dX12_heightBy_16 : decode cX12_heightBy 16 = .ok (.aload_n 0, 1) := by decide +kernel
theorem dX12_heightBy_17 : decode cX12_heightBy 17 = .ok (.getfield 7, 3) := by decide +kernel
theorem dX12_heightBy_20 : decode cX12_heightBy 20 = .ok (.iconst 2, 1) := by decide +kernel
theorem dX12_heightBy_21 : decode cX12_heightBy 21 = .ok (.iaload, 1) := by decide +kernel
theorem dX12_heightBy_22 : decode cX12_heightBy 22 = .ok (.if_icmp .ge 73, 3) := by decide +kernel
theorem dX12_heightBy_25 : decode cX12_heightBy 25 = .ok (.aload_n 0, 1) := by decide +kernel
theorem dX12_heightBy_26 : decode cX12_heightBy 26 = .ok (.iload 6, 2) := by decide +kernel
theorem dX12_heightBy_28 : decode cX12_heightBy 28 = .ok (.iconst 0, 1) := by decide +kernel
theorem dX12_heightBy_29 : decode cX12_heightBy 29 = .ok (.invokevirtual 67, 3) := by decide +kernel
theorem dX12_heightBy_32 : decode cX12_heightBy 32 = .ok (.iload_n 3, 1) := by decide +kernel
theorem dX12_heightBy_33 : decode cX12_heightBy 33 = .ok (.if_icmp .gt 56, 3) := by decide +kernel
theorem dX12_heightBy_36 : decode cX12_heightBy 36 = .ok (.iload 6, 2) := by decide +kernel
theorem dX12_heightBy_38 : decode cX12_heightBy 38 = .ok (.iload_n 1, 1) := by decide +kernel
theorem dX12_heightBy_39 : decode cX12_heightBy 39 = .ok (.if_icmp .eq 16, 3) := by decide +kernel
theorem dX12_heightBy_42 : decode cX12_heightBy 42 = .ok (.aload_n 0, 1) := by decide +kernel
theorem dX12_heightBy_43 : decode cX12_heightBy 43 = .ok (.iload 6, 2) := by decide +kernel
theorem dX12_heightBy_45 : decode cX12_heightBy 45 = .ok (.iload 4, 2) := by decide +kernel
theorem dX12_heightBy_47 : decode cX12_heightBy 47 = .ok (.iload 5, 2) := by decide +kernel
theorem dX12_heightBy_49 : decode cX12_heightBy 49 = .ok (.invokevirtual 158, 3) := by decide +kernel
theorem dX12_heightBy_52 : decode cX12_heightBy 52 = .ok (.goto 28, 3) := by decide +kernel
theorem dX12_heightBy_55 : decode cX12_heightBy 55 = .ok (.iload_n 2, 1) := by decide +kernel
theorem dX12_heightBy_56 : decode cX12_heightBy 56 = .ok (.ifCond .ge 11, 3) := by decide +kernel
theorem dX12_heightBy_59 : decode cX12_heightBy 59 = .ok (.iload 4, 2) := by decide +kernel
theorem dX12_heightBy_61 : decode cX12_heightBy 61 = .ok (.invokestatic 152, 3) := by decide +kernel
theorem dX12_heightBy_64 : decode cX12_heightBy 64 = .ok (.goto 16, 3) := by decide +kernel
theorem dX12_heightBy_67 : decode cX12_heightBy 67 = .ok (.iload_n 2, 1) := by decide +kernel
theorem dX12_heightBy_68 : decode cX12_heightBy 68 = .ok (.ifCond .le 11, 3) := by decide +kernel
theorem dX12_heightBy_71 : decode cX12_heightBy 71 = .ok (.iload 4, 2) := by decide +kernel
theorem dX12_heightBy_73 : decode cX12_heightBy 73 = .ok (.invokestatic 155, 3) := by decide +kernel
theorem dX12_heightBy_76 : decode cX12_heightBy 76 = .ok (.goto 4, 3) := by decide +kernel
theorem dX12_heightBy_79 : decode cX12_heightBy 79 = .ok (.iconst 0, 1) := by decide +kernel
theorem dX12_heightBy_80 : decode cX12_heightBy 80 = .ok (.istore 5, 2) := by decide +kernel
theorem dX12_heightBy_82 : decode cX12_heightBy 82 = .ok (.iload 4, 2) := by decide +kernel
theorem dX12_heightBy_84 : decode cX12_heightBy 84 = .ok (.iload 5, 2) := by decide +kernel
theorem dX12_heightBy_86 : decode cX12_heightBy 86 = .ok (.iadd, 1) := by decide +kernel
theorem dX12_heightBy_87 : decode cX12_heightBy 87 = .ok (.istore 4, 2) := by decide +kernel
theorem dX12_heightBy_89 : decode cX12_heightBy 89 = .ok (.iinc 6 1, 3) := by decide +kernel
theorem dX12_heightBy_92 : decode cX12_heightBy 92 = .ok (.goto (-78), 3) := by decide +kernel
theorem dX12_heightBy_95 : decode cX12_heightBy 95 = .ok (.iload 4, 2) := by decide +kernel
theorem dX12_heightBy_97 : decode cX12_heightBy 97 = .ok (.ireturn, 1) := by decide +kernel
theorem dX12_apart_0 : decode cX12_apart 0 = .ok (.iload_n 0, 1) := by decide +kernel
theorem dX12_apart_1 : decode cX12_apart 1 = .ok (.iload_n 1, 1) := by decide +kernel
theorem dX12_apart_2 : decode cX12_apart 2 = .ok (.if_icmp .ge 9, 3) := by decide +kernel
theorem dX12_apart_5 : decode cX12_apart 5 = .ok (.iload_n 1, 1) := by decide +kernel
theorem dX12_apart_6 : decode cX12_apart 6 = .ok (.iload_n 0, 1) := by decide +kernel
theorem dX12_apart_7 : decode cX12_apart 7 = .ok (.isub, 1) := by decide +kernel
theorem dX12_apart_8 : decode cX12_apart 8 = .ok (.goto 6, 3) := by decide +kernel
theorem dX12_apart_11 : decode cX12_apart 11 = .ok (.iload_n 0, 1) := by decide +kernel
theorem dX12_apart_12 : decode cX12_apart 12 = .ok (.iload_n 1, 1) := by decide +kernel
theorem dX12_apart_13 : decode cX12_apart 13 = .ok (.isub, 1) := by decide +kernel
theorem dX12_apart_14 : decode cX12_apart 14 = .ok (.ireturn, 1) := by decide +kernel
set_option maxRecDepth 20000 in
theorem ggX12_advice_X12_isPasser : GoodIn wsX12_advice wsX12_isPasser := goodIn_r _ [5, 6, 7, 8, 4, 9, 36, 37, 38, 39, 40, 41, 42, 43, 44, 45, 46, 47, 48, 49, 50, 51, 52, 53, 54, 55, 56, 57, 58] (by decide +kernel) (by decide +kernel)
set_option maxRecDepth 20000 in
theorem gX12_advice_X12_isPasser : GoodIn wsX12_advice (wsV RX12 91 RX12 yX12_isPasser wsX12_isPasser) := goodIn_app (goodIn_of _ (by decide +kernel)) ggX12_advice_X12_isPasser
set_option maxRecDepth 20000 in
theorem ggX12_advice_X12_ofPasser : GoodIn wsX12_advice wsX12_ofPasser := goodIn_r _ [13, 6, 36, 37, 38, 39, 40, 41, 42, 43, 44, 45, 46, 47, 48, 49, 50, 51, 52, 53, 54, 55, 56, 57, 58] (by decide +kernel) (by decide +kernel)
set_option maxRecDepth 20000 in
theorem gX12_advice_X12_ofPasser : GoodIn wsX12_advice (wsV RX12 67 RX12 yX12_ofPasser wsX12_ofPasser) := goodIn_app (goodIn_of _ (by decide +kernel)) ggX12_advice_X12_ofPasser
set_option maxRecDepth 20000 in
theorem ggX12_advice_X12_in : GoodIn wsX12_advice wsX12_in := goodIn_r _ [9] (by decide +kernel) (by decide +kernel)
set_option maxRecDepth 20000 in
theorem gX12_advice_X12_in : GoodIn wsX12_advice (va_wsS RX12 63 yX12_in wsX12_in) := goodIn_app (goodIn_of _ (by decide +kernel)) ggX12_advice_X12_in
set_option maxRecDepth 20000 in
theorem ggX12_advice_X12_bad : GoodIn wsX12_advice wsX12_bad := goodIn_r _ [17, 18, 36, 37, 38, 39, 40, 41, 42, 43, 44, 45, 46, 47, 48, 49, 50, 51, 52, 53, 54, 55, 56, 57, 58] (by decide +kernel) (by decide +kernel)
set_option maxRecDepth 20000 in
theorem gX12_advice_X12_bad : GoodIn wsX12_advice (wsV RX12 56 RX12 yX12_bad wsX12_bad) := goodIn_app (goodIn_of _ (by decide +kernel)) ggX12_advice_X12_bad
set_option maxRecDepth 20000 in
theorem ggX12_advice_X12_heightBy : GoodIn wsX12_advice wsX12_heightBy := goodIn_r _ [22, 6, 10, 11, 12, 4, 13, 23, 24, 25, 26, 27, 28, 29, 30, 31, 32, 36, 37, 38, 39, 40, 41, 42, 43, 44, 45, 46, 47, 48, 49, 50, 51, 52, 53, 54, 55, 56, 57, 58] (by decide +kernel) (by decide +kernel)
set_option maxRecDepth 20000 in
theorem gX12_advice_X12_heightBy : GoodIn wsX12_advice (wsV RX12 164 RX12 yX12_heightBy wsX12_heightBy) := goodIn_app (goodIn_of _ (by decide +kernel)) ggX12_advice_X12_heightBy
set_option maxRecDepth 20000 in
theorem ggX12_advice_X12_apart : GoodIn wsX12_advice wsX12_apart := goodIn_r _ [35] (by decide +kernel) (by decide +kernel)
set_option maxRecDepth 20000 in
theorem gX12_advice_X12_apart : GoodIn wsX12_advice (va_wsS RX12 167 yX12_apart wsX12_apart) := goodIn_app (goodIn_of _ (by decide +kernel)) ggX12_advice_X12_apart
theorem dX12_advice_0 : decode cX12_advice 0 = .ok (.aload_n 0, 1) := by decide +kernel
theorem dX12_advice_1 : decode cX12_advice 1 = .ok (.iload_n 1, 1) := by decide +kernel
theorem dX12_advice_2 : decode cX12_advice 2 = .ok (.invokevirtual 91, 3) := by decide +kernel
theorem dX12_advice_5 : decode cX12_advice 5 = .ok (.ifCond .eq 28, 3) := by decide +kernel
theorem dX12_advice_8 : decode cX12_advice 8 = .ok (.iload_n 2, 1) := by decide +kernel
theorem dX12_advice_9 : decode cX12_advice 9 = .ok (.aload_n 0, 1) := by decide +kernel
theorem dX12_advice_10 : decode cX12_advice 10 = .ok (.iload_n 1, 1) := by decide +kernel
theorem dX12_advice_11 : decode cX12_advice 11 = .ok (.iconst 0, 1) := by decide +kernel
theorem dX12_advice_12 : decode cX12_advice 12 = .ok (.invokevirtual 67, 3) := by decide +kernel
theorem dX12_advice_15 : decode cX12_advice 15 = .ok (.bipush 99, 2) := by decide +kernel
theorem dX12_advice_17 : decode cX12_advice 17 = .ok (.invokestatic 63, 3) := by decide +kernel
theorem dX12_advice_20 : decode cX12_advice 20 = .ok (.ifCond .eq 13, 3) := by decide +kernel
theorem dX12_advice_23 : decode cX12_advice 23 = .ok (.iload_n 3, 1) := by decide +kernel
theorem dX12_advice_24 : decode cX12_advice 24 = .ok (.iconst 0, 1) := by decide +kernel
theorem dX12_advice_25 : decode cX12_advice 25 = .ok (.bipush 30, 2) := by decide +kernel
theorem dX12_advice_27 : decode cX12_advice 27 = .ok (.invokestatic 63, 3) := by decide +kernel
theorem dX12_advice_30 : decode cX12_advice 30 = .ok (.ifCond .ne 11, 3) := by decide +kernel
theorem dX12_advice_33 : decode cX12_advice 33 = .ok (.aload_n 0, 1) := by decide +kernel
theorem dX12_advice_34 : decode cX12_advice 34 = .ok (.invokevirtual 56, 3) := by decide +kernel
theorem dX12_advice_37 : decode cX12_advice 37 = .ok (.pop, 1) := by decide +kernel
theorem dX12_advice_38 : decode cX12_advice 38 = .ok (.bipush (-10), 2) := by decide +kernel
theorem dX12_advice_40 : decode cX12_advice 40 = .ok (.ireturn, 1) := by decide +kernel
theorem dX12_advice_41 : decode cX12_advice 41 = .ok (.iconst 0, 1) := by decide +kernel
theorem dX12_advice_42 : decode cX12_advice 42 = .ok (.istore 4, 2) := by decide +kernel
theorem dX12_advice_44 : decode cX12_advice 44 = .ok (.aload_n 0, 1) := by decide +kernel
theorem dX12_advice_45 : decode cX12_advice 45 = .ok (.iload_n 1, 1) := by decide +kernel
theorem dX12_advice_46 : decode cX12_advice 46 = .ok (.iconst 0, 1) := by decide +kernel
theorem dX12_advice_47 : decode cX12_advice 47 = .ok (.iload_n 2, 1) := by decide +kernel
theorem dX12_advice_48 : decode cX12_advice 48 = .ok (.invokevirtual 164, 3) := by decide +kernel
theorem dX12_advice_51 : decode cX12_advice 51 = .ok (.iload_n 3, 1) := by decide +kernel
theorem dX12_advice_52 : decode cX12_advice 52 = .ok (.invokestatic 167, 3) := by decide +kernel
theorem dX12_advice_55 : decode cX12_advice 55 = .ok (.istore 5, 2) := by decide +kernel
theorem dX12_advice_57 : decode cX12_advice 57 = .ok (.iconst (-1), 1) := by decide +kernel
theorem dX12_advice_58 : decode cX12_advice 58 = .ok (.istore 6, 2) := by decide +kernel
theorem dX12_advice_60 : decode cX12_advice 60 = .ok (.iload 6, 2) := by decide +kernel
theorem dX12_advice_62 : decode cX12_advice 62 = .ok (.iconst 2, 1) := by decide +kernel
theorem dX12_advice_63 : decode cX12_advice 63 = .ok (.if_icmp .ge 38, 3) := by decide +kernel
theorem dX12_advice_66 : decode cX12_advice 66 = .ok (.aload_n 0, 1) := by decide +kernel
theorem dX12_advice_67 : decode cX12_advice 67 = .ok (.iload_n 1, 1) := by decide +kernel
theorem dX12_advice_68 : decode cX12_advice 68 = .ok (.iload 6, 2) := by decide +kernel
theorem dX12_advice_70 : decode cX12_advice 70 = .ok (.iload_n 2, 1) := by decide +kernel
theorem dX12_advice_71 : decode cX12_advice 71 = .ok (.invokevirtual 164, 3) := by decide +kernel
theorem dX12_advice_74 : decode cX12_advice 74 = .ok (.iload_n 3, 1) := by decide +kernel
theorem dX12_advice_75 : decode cX12_advice 75 = .ok (.invokestatic 167, 3) := by decide +kernel
theorem dX12_advice_78 : decode cX12_advice 78 = .ok (.istore 7, 2) := by decide +kernel
theorem dX12_advice_80 : decode cX12_advice 80 = .ok (.iload 7, 2) := by decide +kernel
theorem dX12_advice_82 : decode cX12_advice 82 = .ok (.iload 5, 2) := by decide +kernel
theorem dX12_advice_84 : decode cX12_advice 84 = .ok (.if_icmp .ge 11, 3) := by decide +kernel
theorem dX12_advice_87 : decode cX12_advice 87 = .ok (.iload 6, 2) := by decide +kernel
theorem dX12_advice_89 : decode cX12_advice 89 = .ok (.istore 4, 2) := by decide +kernel
theorem dX12_advice_91 : decode cX12_advice 91 = .ok (.iload 7, 2) := by decide +kernel
theorem dX12_advice_93 : decode cX12_advice 93 = .ok (.istore 5, 2) := by decide +kernel
theorem dX12_advice_95 : decode cX12_advice 95 = .ok (.iinc 6 2, 3) := by decide +kernel
theorem dX12_advice_98 : decode cX12_advice 98 = .ok (.goto (-38), 3) := by decide +kernel
theorem dX12_advice_101 : decode cX12_advice 101 = .ok (.iload 4, 2) := by decide +kernel
theorem dX12_advice_103 : decode cX12_advice 103 = .ok (.ireturn, 1) := by decide +kernel
set_option maxRecDepth 20000 in
theorem ggX12_check_X12_addCheck : GoodIn wsX12_check wsX12_addCheck := goodIn_r _ [5, 6, 7, 8, 4, 9, 23, 24, 25, 26, 27, 28, 29, 30, 31, 32, 33, 34, 35, 36, 37, 38, 39, 40, 41, 42, 43, 44, 45] (by decide +kernel) (by decide +kernel)
set_option maxRecDepth 20000 in
theorem gX12_check_X12_addCheck : GoodIn wsX12_check (wsV RX12 135 RX12 yX12_addCheck wsX12_addCheck) := goodIn_app (goodIn_of _ (by decide +kernel)) ggX12_check_X12_addCheck
set_option maxRecDepth 20000 in
theorem ggX12_check_X12_told : GoodIn wsX12_check wsX12_told := goodIn_r _ [13, 14, 15, 16, 4, 17, 18, 19, 20, 21, 22, 23, 24, 25, 26, 27, 28, 29, 30, 31, 32, 33, 34, 35, 36, 37, 38, 39, 40, 41, 42, 43, 44, 45] (by decide +kernel) (by decide +kernel)
set_option maxRecDepth 20000 in
theorem gX12_check_X12_told : GoodIn wsX12_check (wsV RX12 75 RX12 yX12_told wsX12_told) := goodIn_app (goodIn_of _ (by decide +kernel)) ggX12_check_X12_told
theorem dX12_check_0 : decode cX12_check 0 = .ok (.aload_n 0, 1) := by decide +kernel
theorem dX12_check_1 : decode cX12_check 1 = .ok (.aload_n 0, 1) := by decide +kernel
theorem dX12_check_2 : decode cX12_check 2 = .ok (.iload_n 1, 1) := by decide +kernel
theorem dX12_check_3 : decode cX12_check 3 = .ok (.iload_n 2, 1) := by decide +kernel
theorem dX12_check_4 : decode cX12_check 4 = .ok (.iload_n 3, 1) := by decide +kernel
theorem dX12_check_5 : decode cX12_check 5 = .ok (.invokevirtual 135, 3) := by decide +kernel
theorem dX12_check_8 : decode cX12_check 8 = .ok (.invokevirtual 75, 3) := by decide +kernel
theorem dX12_check_11 : decode cX12_check 11 = .ok (.ireturn, 1) := by decide +kernel
set_option maxRecDepth 20000 in
theorem ggX12_goBy_X12_ofPasser : GoodIn wsX12_goBy wsX12_ofPasser := goodIn_r _ [8, 1, 19, 20, 21, 22, 23, 24, 25, 26, 27, 28, 29, 30, 31, 32, 33, 34, 35, 36, 37, 38, 39, 40, 41] (by decide +kernel) (by decide +kernel)
set_option maxRecDepth 20000 in
theorem gX12_goBy_X12_ofPasser : GoodIn wsX12_goBy (wsV RX12 67 RX12 yX12_ofPasser wsX12_ofPasser) := goodIn_app (goodIn_of _ (by decide +kernel)) ggX12_goBy_X12_ofPasser
set_option maxRecDepth 20000 in
theorem ggX12_goBy_X12_actOf : GoodIn wsX12_goBy wsX12_actOf := goodIn_r _ [12, 4, 5, 6, 7, 8, 1, 13, 14, 15, 16, 17, 18, 19, 20, 21, 22, 23, 24, 25, 26, 27, 28, 29, 30, 31, 32, 33, 34, 35, 36, 37, 38, 39, 40, 41] (by decide +kernel) (by decide +kernel)
set_option maxRecDepth 20000 in
theorem gX12_goBy_X12_actOf : GoodIn wsX12_goBy (wsV RX12 158 RX12 yX12_actOf wsX12_actOf) := goodIn_app (goodIn_of _ (by decide +kernel)) ggX12_goBy_X12_actOf
theorem dX12_goBy_0 : decode cX12_goBy 0 = .ok (.iload_n 1, 1) := by decide +kernel
theorem dX12_goBy_1 : decode cX12_goBy 1 = .ok (.ifCond .ge 7, 3) := by decide +kernel
theorem dX12_goBy_4 : decode cX12_goBy 4 = .ok (.iconst (-1), 1) := by decide +kernel
theorem dX12_goBy_5 : decode cX12_goBy 5 = .ok (.goto 14, 3) := by decide +kernel
theorem dX12_goBy_8 : decode cX12_goBy 8 = .ok (.aload_n 0, 1) := by decide +kernel
theorem dX12_goBy_9 : decode cX12_goBy 9 = .ok (.getfield 7, 3) := by decide +kernel
theorem dX12_goBy_12 : decode cX12_goBy 12 = .ok (.bipush 86, 2) := by decide +kernel
theorem dX12_goBy_14 : decode cX12_goBy 14 = .ok (.iconst 3, 1) := by decide +kernel
theorem dX12_goBy_15 : decode cX12_goBy 15 = .ok (.iload_n 1, 1) := by decide +kernel
theorem dX12_goBy_16 : decode cX12_goBy 16 = .ok (.imul, 1) := by decide +kernel
theorem dX12_goBy_17 : decode cX12_goBy 17 = .ok (.iadd, 1) := by decide +kernel
theorem dX12_goBy_18 : decode cX12_goBy 18 = .ok (.iaload, 1) := by decide +kernel
theorem dX12_goBy_19 : decode cX12_goBy 19 = .ok (.istore 4, 2) := by decide +kernel
theorem dX12_goBy_21 : decode cX12_goBy 21 = .ok (.aload_n 0, 1) := by decide +kernel
theorem dX12_goBy_22 : decode cX12_goBy 22 = .ok (.getfield 7, 3) := by decide +kernel
theorem dX12_goBy_25 : decode cX12_goBy 25 = .ok (.bipush 86, 2) := by decide +kernel
theorem dX12_goBy_27 : decode cX12_goBy 27 = .ok (.iconst 3, 1) := by decide +kernel
theorem dX12_goBy_28 : decode cX12_goBy 28 = .ok (.iload_n 1, 1) := by decide +kernel
theorem dX12_goBy_29 : decode cX12_goBy 29 = .ok (.imul, 1) := by decide +kernel
theorem dX12_goBy_30 : decode cX12_goBy 30 = .ok (.iadd, 1) := by decide +kernel
theorem dX12_goBy_31 : decode cX12_goBy 31 = .ok (.iconst 3, 1) := by decide +kernel
theorem dX12_goBy_32 : decode cX12_goBy 32 = .ok (.iadd, 1) := by decide +kernel
theorem dX12_goBy_33 : decode cX12_goBy 33 = .ok (.iaload, 1) := by decide +kernel
theorem dX12_goBy_34 : decode cX12_goBy 34 = .ok (.istore 5, 2) := by decide +kernel
theorem dX12_goBy_36 : decode cX12_goBy 36 = .ok (.aload_n 0, 1) := by decide +kernel
theorem dX12_goBy_37 : decode cX12_goBy 37 = .ok (.iload_n 2, 1) := by decide +kernel
theorem dX12_goBy_38 : decode cX12_goBy 38 = .ok (.putfield 170, 3) := by decide +kernel
theorem dX12_goBy_41 : decode cX12_goBy 41 = .ok (.aload_n 0, 1) := by decide +kernel
theorem dX12_goBy_42 : decode cX12_goBy 42 = .ok (.iload_n 3, 1) := by decide +kernel
theorem dX12_goBy_43 : decode cX12_goBy 43 = .ok (.putfield 173, 3) := by decide +kernel
theorem dX12_goBy_46 : decode cX12_goBy 46 = .ok (.iconst 0, 1) := by decide +kernel
theorem dX12_goBy_47 : decode cX12_goBy 47 = .ok (.istore 6, 2) := by decide +kernel
theorem dX12_goBy_49 : decode cX12_goBy 49 = .ok (.iload 6, 2) := by decide +kernel
theorem dX12_goBy_51 : decode cX12_goBy 51 = .ok (.aload_n 0, 1) := by decide +kernel
theorem dX12_goBy_52 : decode cX12_goBy 52 = .ok (.getfield 7, 3) := by decide +kernel
theorem dX12_goBy_55 : decode cX12_goBy 55 = .ok (.iconst 2, 1) := by decide +kernel
theorem dX12_goBy_56 : decode cX12_goBy 56 = .ok (.iaload, 1) := by decide +kernel
theorem dX12_goBy_57 : decode cX12_goBy 57 = .ok (.if_icmp .ge 64, 3) := by decide +kernel
theorem dX12_goBy_60 : decode cX12_goBy 60 = .ok (.aload_n 0, 1) := by decide +kernel
theorem dX12_goBy_61 : decode cX12_goBy 61 = .ok (.iload 6, 2) := by decide +kernel
theorem dX12_goBy_63 : decode cX12_goBy 63 = .ok (.iconst 0, 1) := by decide +kernel
theorem dX12_goBy_64 : decode cX12_goBy 64 = .ok (.invokevirtual 67, 3) := by decide +kernel
theorem dX12_goBy_67 : decode cX12_goBy 67 = .ok (.iload 4, 2) := by decide +kernel
theorem dX12_goBy_69 : decode cX12_goBy 69 = .ok (.if_icmp .le 46, 3) := by decide +kernel
theorem dX12_goBy_72 : decode cX12_goBy 72 = .ok (.aload_n 0, 1) := by decide +kernel
theorem dX12_goBy_73 : decode cX12_goBy 73 = .ok (.iload 6, 2) := by decide +kernel
theorem dX12_goBy_75 : decode cX12_goBy 75 = .ok (.iconst 0, 1) := by decide +kernel
theorem dX12_goBy_76 : decode cX12_goBy 76 = .ok (.invokevirtual 67, 3) := by decide +kernel
theorem dX12_goBy_79 : decode cX12_goBy 79 = .ok (.iload 5, 2) := by decide +kernel
theorem dX12_goBy_81 : decode cX12_goBy 81 = .ok (.if_icmp .gt 34, 3) := by decide +kernel
theorem dX12_goBy_84 : decode cX12_goBy 84 = .ok (.aload_n 0, 1) := by decide +kernel
theorem dX12_goBy_85 : decode cX12_goBy 85 = .ok (.aload_n 0, 1) := by decide +kernel
theorem dX12_goBy_86 : decode cX12_goBy 86 = .ok (.iload 6, 2) := by decide +kernel
theorem dX12_goBy_88 : decode cX12_goBy 88 = .ok (.aload_n 0, 1) := by decide +kernel
theorem dX12_goBy_89 : decode cX12_goBy 89 = .ok (.getfield 170, 3) := by decide +kernel
theorem dX12_goBy_92 : decode cX12_goBy 92 = .ok (.aload_n 0, 1) := by decide +kernel
theorem dX12_goBy_93 : decode cX12_goBy 93 = .ok (.getfield 173, 3) := by decide +kernel
theorem dX12_goBy_96 : decode cX12_goBy 96 = .ok (.invokevirtual 158, 3) := by decide +kernel
theorem dX12_goBy_99 : decode cX12_goBy 99 = .ok (.putfield 173, 3) := by decide +kernel
theorem dX12_goBy_102 : decode cX12_goBy 102 = .ok (.aload_n 0, 1) := by decide +kernel
theorem dX12_goBy_103 : decode cX12_goBy 103 = .ok (.dup, 1) := by decide +kernel
theorem dX12_goBy_104 : decode cX12_goBy 104 = .ok (.getfield 170, 3) := by decide +kernel
theorem dX12_goBy_107 : decode cX12_goBy 107 = .ok (.aload_n 0, 1) := by decide +kernel
theorem dX12_goBy_108 : decode cX12_goBy 108 = .ok (.getfield 173, 3) := by decide +kernel
theorem dX12_goBy_111 : decode cX12_goBy 111 = .ok (.iadd, 1) := by decide +kernel
theorem dX12_goBy_112 : decode cX12_goBy 112 = .ok (.putfield 170, 3) := by decide +kernel
theorem dX12_goBy_115 : decode cX12_goBy 115 = .ok (.iinc 6 1, 3) := by decide +kernel
theorem dX12_goBy_118 : decode cX12_goBy 118 = .ok (.goto (-69), 3) := by decide +kernel
theorem dX12_goBy_121 : decode cX12_goBy 121 = .ok (.return_, 1) := by decide +kernel
set_option maxRecDepth 20000 in
theorem ggX12_costOf_X12_apart : GoodIn wsX12_costOf wsX12_apart := goodIn_r _ [8] (by decide +kernel) (by decide +kernel)
set_option maxRecDepth 20000 in
theorem gX12_costOf_X12_apart : GoodIn wsX12_costOf (va_wsS RX12 167 yX12_apart wsX12_apart) := goodIn_app (goodIn_of _ (by decide +kernel)) ggX12_costOf_X12_apart
set_option maxRecDepth 20000 in
theorem ggX12_costOf_X12_goBy : GoodIn wsX12_costOf wsX12_goBy := goodIn_r _ [12, 1, 3, 4, 13, 14, 15, 7, 16, 17, 18, 19, 20, 21, 22, 23, 24, 25, 26, 27, 28, 29, 30, 31, 32, 33, 34, 35, 36, 37, 38, 39, 40, 41, 42, 43, 44, 45, 46, 47, 48, 49] (by decide +kernel) (by decide +kernel)
set_option maxRecDepth 20000 in
theorem gX12_costOf_X12_goBy : GoodIn wsX12_costOf (wsV RX12 176 RX12 yX12_goBy wsX12_goBy) := goodIn_app (goodIn_of _ (by decide +kernel)) ggX12_costOf_X12_goBy
theorem dX12_costOf_0 : decode cX12_costOf 0 = .ok (.iload_n 2, 1) := by decide +kernel
theorem dX12_costOf_1 : decode cX12_costOf 1 = .ok (.iload 4, 2) := by decide +kernel
theorem dX12_costOf_3 : decode cX12_costOf 3 = .ok (.invokestatic 167, 3) := by decide +kernel
theorem dX12_costOf_6 : decode cX12_costOf 6 = .ok (.istore 5, 2) := by decide +kernel
theorem dX12_costOf_8 : decode cX12_costOf 8 = .ok (.iload_n 1, 1) := by decide +kernel
theorem dX12_costOf_9 : decode cX12_costOf 9 = .ok (.aload_n 0, 1) := by decide +kernel
theorem dX12_costOf_10 : decode cX12_costOf 10 = .ok (.getfield 7, 3) := by decide +kernel
theorem dX12_costOf_13 : decode cX12_costOf 13 = .ok (.iconst 4, 1) := by decide +kernel
theorem dX12_costOf_14 : decode cX12_costOf 14 = .ok (.iaload, 1) := by decide +kernel
theorem dX12_costOf_15 : decode cX12_costOf 15 = .ok (.iconst 1, 1) := by decide +kernel
theorem dX12_costOf_16 : decode cX12_costOf 16 = .ok (.isub, 1) := by decide +kernel
theorem dX12_costOf_17 : decode cX12_costOf 17 = .ok (.if_icmp .ne 6, 3) := by decide +kernel
theorem dX12_costOf_20 : decode cX12_costOf 20 = .ok (.iload 5, 2) := by decide +kernel
theorem dX12_costOf_22 : decode cX12_costOf 22 = .ok (.ireturn, 1) := by decide +kernel
theorem dX12_costOf_23 : decode cX12_costOf 23 = .ok (.aload_n 0, 1) := by decide +kernel
theorem dX12_costOf_24 : decode cX12_costOf 24 = .ok (.iload_n 1, 1) := by decide +kernel
theorem dX12_costOf_25 : decode cX12_costOf 25 = .ok (.iload 4, 2) := by decide +kernel
theorem dX12_costOf_27 : decode cX12_costOf 27 = .ok (.iload_n 3, 1) := by decide +kernel
theorem dX12_costOf_28 : decode cX12_costOf 28 = .ok (.invokevirtual 176, 3) := by decide +kernel
theorem dX12_costOf_31 : decode cX12_costOf 31 = .ok (.iload 5, 2) := by decide +kernel
theorem dX12_costOf_33 : decode cX12_costOf 33 = .ok (.aload_n 0, 1) := by decide +kernel
theorem dX12_costOf_34 : decode cX12_costOf 34 = .ok (.getfield 30, 3) := by decide +kernel
theorem dX12_costOf_37 : decode cX12_costOf 37 = .ok (.bipush 124, 2) := by decide +kernel
theorem dX12_costOf_39 : decode cX12_costOf 39 = .ok (.iload_n 1, 1) := by decide +kernel
theorem dX12_costOf_40 : decode cX12_costOf 40 = .ok (.iconst 1, 1) := by decide +kernel
theorem dX12_costOf_41 : decode cX12_costOf 41 = .ok (.iadd, 1) := by decide +kernel
theorem dX12_costOf_42 : decode cX12_costOf 42 = .ok (.imul, 1) := by decide +kernel
theorem dX12_costOf_43 : decode cX12_costOf 43 = .ok (.iconst 4, 1) := by decide +kernel
theorem dX12_costOf_44 : decode cX12_costOf 44 = .ok (.aload_n 0, 1) := by decide +kernel
theorem dX12_costOf_45 : decode cX12_costOf 45 = .ok (.getfield 170, 3) := by decide +kernel
theorem dX12_costOf_48 : decode cX12_costOf 48 = .ok (.imul, 1) := by decide +kernel
theorem dX12_costOf_49 : decode cX12_costOf 49 = .ok (.iadd, 1) := by decide +kernel
theorem dX12_costOf_50 : decode cX12_costOf 50 = .ok (.aload_n 0, 1) := by decide +kernel
theorem dX12_costOf_51 : decode cX12_costOf 51 = .ok (.getfield 173, 3) := by decide +kernel
theorem dX12_costOf_54 : decode cX12_costOf 54 = .ok (.iadd, 1) := by decide +kernel
theorem dX12_costOf_55 : decode cX12_costOf 55 = .ok (.iconst 2, 1) := by decide +kernel
theorem dX12_costOf_56 : decode cX12_costOf 56 = .ok (.iadd, 1) := by decide +kernel
theorem dX12_costOf_57 : decode cX12_costOf 57 = .ok (.iaload, 1) := by decide +kernel
theorem dX12_costOf_58 : decode cX12_costOf 58 = .ok (.iadd, 1) := by decide +kernel
theorem dX12_costOf_59 : decode cX12_costOf 59 = .ok (.ireturn, 1) := by decide +kernel
set_option maxRecDepth 20000 in
theorem ggX12_bestOf_X12_costOf : GoodIn wsX12_bestOf wsX12_costOf := goodIn_r _ [7, 1, 2, 8, 9, 10, 11, 6, 12, 13, 14, 15, 16, 17, 18, 19, 20, 21, 22, 23, 24, 25, 26, 27, 28, 29, 30, 31, 32, 33, 34, 35, 36, 37, 38, 39, 40, 41, 42, 43, 44, 45, 46, 47, 48, 49, 50, 51, 52, 53] (by decide +kernel) (by decide +kernel)
set_option maxRecDepth 20000 in
theorem gX12_bestOf_X12_costOf : GoodIn wsX12_bestOf (wsV RX12 180 RX12 yX12_costOf wsX12_costOf) := goodIn_app (goodIn_of _ (by decide +kernel)) ggX12_bestOf_X12_costOf
theorem dX12_bestOf_0 : decode cX12_bestOf 0 = .ok (.aload_n 0, 1) := by decide +kernel
theorem dX12_bestOf_1 : decode cX12_bestOf 1 = .ok (.getfield 7, 3) := by decide +kernel
theorem dX12_bestOf_4 : decode cX12_bestOf 4 = .ok (.bipush 86, 2) := by decide +kernel
theorem dX12_bestOf_6 : decode cX12_bestOf 6 = .ok (.iconst 3, 1) := by decide +kernel
theorem dX12_bestOf_7 : decode cX12_bestOf 7 = .ok (.iload_n 1, 1) := by decide +kernel
theorem dX12_bestOf_8 : decode cX12_bestOf 8 = .ok (.imul, 1) := by decide +kernel
theorem dX12_bestOf_9 : decode cX12_bestOf 9 = .ok (.iadd, 1) := by decide +kernel
theorem dX12_bestOf_10 : decode cX12_bestOf 10 = .ok (.iconst 1, 1) := by decide +kernel
theorem dX12_bestOf_11 : decode cX12_bestOf 11 = .ok (.iadd, 1) := by decide +kernel
theorem dX12_bestOf_12 : decode cX12_bestOf 12 = .ok (.iaload, 1) := by decide +kernel
theorem dX12_bestOf_13 : decode cX12_bestOf 13 = .ok (.istore 4, 2) := by decide +kernel
theorem dX12_bestOf_15 : decode cX12_bestOf 15 = .ok (.aload_n 0, 1) := by decide +kernel
theorem dX12_bestOf_16 : decode cX12_bestOf 16 = .ok (.iload_n 1, 1) := by decide +kernel
theorem dX12_bestOf_17 : decode cX12_bestOf 17 = .ok (.iload_n 2, 1) := by decide +kernel
theorem dX12_bestOf_18 : decode cX12_bestOf 18 = .ok (.iload_n 3, 1) := by decide +kernel
theorem dX12_bestOf_19 : decode cX12_bestOf 19 = .ok (.iload 4, 2) := by decide +kernel
theorem dX12_bestOf_21 : decode cX12_bestOf 21 = .ok (.invokevirtual 180, 3) := by decide +kernel
theorem dX12_bestOf_24 : decode cX12_bestOf 24 = .ok (.istore 5, 2) := by decide +kernel
theorem dX12_bestOf_26 : decode cX12_bestOf 26 = .ok (.iload 4, 2) := by decide +kernel
theorem dX12_bestOf_28 : decode cX12_bestOf 28 = .ok (.iconst 1, 1) := by decide +kernel
theorem dX12_bestOf_29 : decode cX12_bestOf 29 = .ok (.iadd, 1) := by decide +kernel
theorem dX12_bestOf_30 : decode cX12_bestOf 30 = .ok (.istore 6, 2) := by decide +kernel
theorem dX12_bestOf_32 : decode cX12_bestOf 32 = .ok (.iload 6, 2) := by decide +kernel
theorem dX12_bestOf_34 : decode cX12_bestOf 34 = .ok (.aload_n 0, 1) := by decide +kernel
theorem dX12_bestOf_35 : decode cX12_bestOf 35 = .ok (.getfield 7, 3) := by decide +kernel
theorem dX12_bestOf_38 : decode cX12_bestOf 38 = .ok (.bipush 86, 2) := by decide +kernel
theorem dX12_bestOf_40 : decode cX12_bestOf 40 = .ok (.iconst 3, 1) := by decide +kernel
theorem dX12_bestOf_41 : decode cX12_bestOf 41 = .ok (.iload_n 1, 1) := by decide +kernel
theorem dX12_bestOf_42 : decode cX12_bestOf 42 = .ok (.imul, 1) := by decide +kernel
theorem dX12_bestOf_43 : decode cX12_bestOf 43 = .ok (.iadd, 1) := by decide +kernel
theorem dX12_bestOf_44 : decode cX12_bestOf 44 = .ok (.iconst 2, 1) := by decide +kernel
theorem dX12_bestOf_45 : decode cX12_bestOf 45 = .ok (.iadd, 1) := by decide +kernel
theorem dX12_bestOf_46 : decode cX12_bestOf 46 = .ok (.iaload, 1) := by decide +kernel
theorem dX12_bestOf_47 : decode cX12_bestOf 47 = .ok (.if_icmp .gt 35, 3) := by decide +kernel
theorem dX12_bestOf_50 : decode cX12_bestOf 50 = .ok (.aload_n 0, 1) := by decide +kernel
theorem dX12_bestOf_51 : decode cX12_bestOf 51 = .ok (.iload_n 1, 1) := by decide +kernel
theorem dX12_bestOf_52 : decode cX12_bestOf 52 = .ok (.iload_n 2, 1) := by decide +kernel
theorem dX12_bestOf_53 : decode cX12_bestOf 53 = .ok (.iload_n 3, 1) := by decide +kernel
theorem dX12_bestOf_54 : decode cX12_bestOf 54 = .ok (.iload 6, 2) := by decide +kernel
theorem dX12_bestOf_56 : decode cX12_bestOf 56 = .ok (.invokevirtual 180, 3) := by decide +kernel
theorem dX12_bestOf_59 : decode cX12_bestOf 59 = .ok (.istore 7, 2) := by decide +kernel
theorem dX12_bestOf_61 : decode cX12_bestOf 61 = .ok (.iload 7, 2) := by decide +kernel
theorem dX12_bestOf_63 : decode cX12_bestOf 63 = .ok (.iload 5, 2) := by decide +kernel
theorem dX12_bestOf_65 : decode cX12_bestOf 65 = .ok (.if_icmp .ge 11, 3) := by decide +kernel
theorem dX12_bestOf_68 : decode cX12_bestOf 68 = .ok (.iload 7, 2) := by decide +kernel
theorem dX12_bestOf_70 : decode cX12_bestOf 70 = .ok (.istore 5, 2) := by decide +kernel
theorem dX12_bestOf_72 : decode cX12_bestOf 72 = .ok (.iload 6, 2) := by decide +kernel
theorem dX12_bestOf_74 : decode cX12_bestOf 74 = .ok (.istore 4, 2) := by decide +kernel
theorem dX12_bestOf_76 : decode cX12_bestOf 76 = .ok (.iinc 6 1, 3) := by decide +kernel
theorem dX12_bestOf_79 : decode cX12_bestOf 79 = .ok (.goto (-47), 3) := by decide +kernel
theorem dX12_bestOf_82 : decode cX12_bestOf 82 = .ok (.aload_n 0, 1) := by decide +kernel
theorem dX12_bestOf_83 : decode cX12_bestOf 83 = .ok (.getfield 30, 3) := by decide +kernel
theorem dX12_bestOf_86 : decode cX12_bestOf 86 = .ok (.bipush 124, 2) := by decide +kernel
theorem dX12_bestOf_88 : decode cX12_bestOf 88 = .ok (.iload_n 1, 1) := by decide +kernel
theorem dX12_bestOf_89 : decode cX12_bestOf 89 = .ok (.imul, 1) := by decide +kernel
theorem dX12_bestOf_90 : decode cX12_bestOf 90 = .ok (.iconst 4, 1) := by decide +kernel
theorem dX12_bestOf_91 : decode cX12_bestOf 91 = .ok (.iload_n 2, 1) := by decide +kernel
theorem dX12_bestOf_92 : decode cX12_bestOf 92 = .ok (.imul, 1) := by decide +kernel
theorem dX12_bestOf_93 : decode cX12_bestOf 93 = .ok (.iadd, 1) := by decide +kernel
theorem dX12_bestOf_94 : decode cX12_bestOf 94 = .ok (.iload_n 3, 1) := by decide +kernel
theorem dX12_bestOf_95 : decode cX12_bestOf 95 = .ok (.iadd, 1) := by decide +kernel
theorem dX12_bestOf_96 : decode cX12_bestOf 96 = .ok (.iconst 2, 1) := by decide +kernel
theorem dX12_bestOf_97 : decode cX12_bestOf 97 = .ok (.iadd, 1) := by decide +kernel
theorem dX12_bestOf_98 : decode cX12_bestOf 98 = .ok (.iload 5, 2) := by decide +kernel
theorem dX12_bestOf_100 : decode cX12_bestOf 100 = .ok (.iastore, 1) := by decide +kernel
theorem dX12_bestOf_101 : decode cX12_bestOf 101 = .ok (.iload 4, 2) := by decide +kernel
theorem dX12_bestOf_103 : decode cX12_bestOf 103 = .ok (.ireturn, 1) := by decide +kernel
set_option maxRecDepth 20000 in
theorem ggX12_hired_X12_in : GoodIn wsX12_hired wsX12_in := goodIn_r _ [8] (by decide +kernel) (by decide +kernel)
set_option maxRecDepth 20000 in
theorem gX12_hired_X12_in : GoodIn wsX12_hired (va_wsS RX12 63 yX12_in wsX12_in) := goodIn_app (goodIn_of _ (by decide +kernel)) ggX12_hired_X12_in
set_option maxRecDepth 20000 in
theorem ggX12_hired_X12_bad : GoodIn wsX12_hired wsX12_bad := goodIn_r _ [12, 13, 43, 44, 45, 46, 47, 48, 49, 50, 51, 52, 53, 54, 55, 56, 57, 58, 59, 60, 61, 62, 63, 64, 65] (by decide +kernel) (by decide +kernel)
set_option maxRecDepth 20000 in
theorem gX12_hired_X12_bad : GoodIn wsX12_hired (wsV RX12 56 RX12 yX12_bad wsX12_bad) := goodIn_app (goodIn_of _ (by decide +kernel)) ggX12_hired_X12_bad
set_option maxRecDepth 20000 in
theorem ggX12_hired_X12_bestOf : GoodIn wsX12_hired wsX12_bestOf := goodIn_r _ [17, 1, 4, 18, 19, 20, 7, 21, 2, 3, 22, 23, 24, 25, 26, 27, 28, 29, 30, 31, 32, 33, 34, 35, 36, 37, 38, 39, 40, 41, 42, 43, 44, 45, 46, 47, 48, 49, 50, 51, 52, 53, 54, 55, 56, 57, 58, 59, 60, 61, 62, 63, 64, 65] (by decide +kernel) (by decide +kernel)
set_option maxRecDepth 20000 in
theorem gX12_hired_X12_bestOf : GoodIn wsX12_hired (wsV RX12 183 RX12 yX12_bestOf wsX12_bestOf) := goodIn_app (goodIn_of _ (by decide +kernel)) ggX12_hired_X12_bestOf
set_option maxRecDepth 20000 in
theorem ggX12_hired_X12_goBy : GoodIn wsX12_hired wsX12_goBy := goodIn_r _ [28, 1, 2, 3, 29, 30, 31, 7, 32, 33, 34, 35, 36, 37, 38, 39, 40, 41, 42, 43, 44, 45, 46, 47, 48, 49, 50, 51, 52, 53, 54, 55, 56, 57, 58, 59, 60, 61, 62, 63, 64, 65] (by decide +kernel) (by decide +kernel)
set_option maxRecDepth 20000 in
theorem gX12_hired_X12_goBy : GoodIn wsX12_hired (wsV RX12 176 RX12 yX12_goBy wsX12_goBy) := goodIn_app (goodIn_of _ (by decide +kernel)) ggX12_hired_X12_goBy
theorem dX12_hired_0 : decode cX12_hired 0 = .ok (.iload_n 1, 1) := by decide +kernel
theorem dX12_hired_1 : decode cX12_hired 1 = .ok (.iconst (-1), 1) := by decide +kernel
theorem dX12_hired_2 : decode cX12_hired 2 = .ok (.aload_n 0, 1) := by decide +kernel
theorem dX12_hired_3 : decode cX12_hired 3 = .ok (.getfield 7, 3) := by decide +kernel
theorem dX12_hired_6 : decode cX12_hired 6 = .ok (.iconst 4, 1) := by decide +kernel
theorem dX12_hired_7 : decode cX12_hired 7 = .ok (.iaload, 1) := by decide +kernel
theorem dX12_hired_8 : decode cX12_hired 8 = .ok (.iconst 1, 1) := by decide +kernel
theorem dX12_hired_9 : decode cX12_hired 9 = .ok (.isub, 1) := by decide +kernel
theorem dX12_hired_10 : decode cX12_hired 10 = .ok (.invokestatic 63, 3) := by decide +kernel
theorem dX12_hired_13 : decode cX12_hired 13 = .ok (.ifCond .ne 11, 3) := by decide +kernel
theorem dX12_hired_16 : decode cX12_hired 16 = .ok (.aload_n 0, 1) := by decide +kernel
theorem dX12_hired_17 : decode cX12_hired 17 = .ok (.invokevirtual 56, 3) := by decide +kernel
theorem dX12_hired_20 : decode cX12_hired 20 = .ok (.pop, 1) := by decide +kernel
theorem dX12_hired_21 : decode cX12_hired 21 = .ok (.bipush (-100), 2) := by decide +kernel
theorem dX12_hired_23 : decode cX12_hired 23 = .ok (.ireturn, 1) := by decide +kernel
theorem dX12_hired_24 : decode cX12_hired 24 = .ok (.aload_n 0, 1) := by decide +kernel
theorem dX12_hired_25 : decode cX12_hired 25 = .ok (.getfield 7, 3) := by decide +kernel
theorem dX12_hired_28 : decode cX12_hired 28 = .ok (.iconst 4, 1) := by decide +kernel
theorem dX12_hired_29 : decode cX12_hired 29 = .ok (.iaload, 1) := by decide +kernel
theorem dX12_hired_30 : decode cX12_hired 30 = .ok (.ifCond .ne 5, 3) := by decide +kernel
theorem dX12_hired_33 : decode cX12_hired 33 = .ok (.iconst 0, 1) := by decide +kernel
theorem dX12_hired_34 : decode cX12_hired 34 = .ok (.ireturn, 1) := by decide +kernel
theorem dX12_hired_35 : decode cX12_hired 35 = .ok (.aload_n 0, 1) := by decide +kernel
theorem dX12_hired_36 : decode cX12_hired 36 = .ok (.getfield 7, 3) := by decide +kernel
theorem dX12_hired_39 : decode cX12_hired 39 = .ok (.iconst 4, 1) := by decide +kernel
theorem dX12_hired_40 : decode cX12_hired 40 = .ok (.iaload, 1) := by decide +kernel
theorem dX12_hired_41 : decode cX12_hired 41 = .ok (.iconst 1, 1) := by decide +kernel
theorem dX12_hired_42 : decode cX12_hired 42 = .ok (.isub, 1) := by decide +kernel
theorem dX12_hired_43 : decode cX12_hired 43 = .ok (.istore_n 2, 1) := by decide +kernel
theorem dX12_hired_44 : decode cX12_hired 44 = .ok (.iload_n 2, 1) := by decide +kernel
theorem dX12_hired_45 : decode cX12_hired 45 = .ok (.ifCond .lt 37, 3) := by decide +kernel
theorem dX12_hired_48 : decode cX12_hired 48 = .ok (.iconst 0, 1) := by decide +kernel
theorem dX12_hired_49 : decode cX12_hired 49 = .ok (.istore_n 3, 1) := by decide +kernel
theorem dX12_hired_50 : decode cX12_hired 50 = .ok (.iload_n 3, 1) := by decide +kernel
theorem dX12_hired_51 : decode cX12_hired 51 = .ok (.bipush 124, 2) := by decide +kernel
theorem dX12_hired_53 : decode cX12_hired 53 = .ok (.if_icmp .ge 23, 3) := by decide +kernel
theorem dX12_hired_56 : decode cX12_hired 56 = .ok (.aload_n 0, 1) := by decide +kernel
theorem dX12_hired_57 : decode cX12_hired 57 = .ok (.iload_n 2, 1) := by decide +kernel
theorem dX12_hired_58 : decode cX12_hired 58 = .ok (.iload_n 3, 1) := by decide +kernel
theorem dX12_hired_59 : decode cX12_hired 59 = .ok (.iconst 4, 1) := by decide +kernel
theorem dX12_hired_60 : decode cX12_hired 60 = .ok (.idiv, 1) := by decide +kernel
theorem dX12_hired_61 : decode cX12_hired 61 = .ok (.iload_n 3, 1) := by decide +kernel
theorem dX12_hired_62 : decode cX12_hired 62 = .ok (.iconst 4, 1) := by decide +kernel
theorem dX12_hired_63 : decode cX12_hired 63 = .ok (.irem, 1) := by decide +kernel
theorem dX12_hired_64 : decode cX12_hired 64 = .ok (.iconst 2, 1) := by decide +kernel
theorem dX12_hired_65 : decode cX12_hired 65 = .ok (.isub, 1) := by decide +kernel
theorem dX12_hired_66 : decode cX12_hired 66 = .ok (.invokevirtual 183, 3) := by decide +kernel
theorem dX12_hired_69 : decode cX12_hired 69 = .ok (.pop, 1) := by decide +kernel
theorem dX12_hired_70 : decode cX12_hired 70 = .ok (.iinc 3 1, 3) := by decide +kernel
theorem dX12_hired_73 : decode cX12_hired 73 = .ok (.goto (-23), 3) := by decide +kernel
theorem dX12_hired_76 : decode cX12_hired 76 = .ok (.iinc 2 (-1), 3) := by decide +kernel
theorem dX12_hired_79 : decode cX12_hired 79 = .ok (.goto (-35), 3) := by decide +kernel
theorem dX12_hired_82 : decode cX12_hired 82 = .ok (.aload_n 0, 1) := by decide +kernel
theorem dX12_hired_83 : decode cX12_hired 83 = .ok (.iconst (-1), 1) := by decide +kernel
theorem dX12_hired_84 : decode cX12_hired 84 = .ok (.aload_n 0, 1) := by decide +kernel
theorem dX12_hired_85 : decode cX12_hired 85 = .ok (.getfield 7, 3) := by decide +kernel
theorem dX12_hired_88 : decode cX12_hired 88 = .ok (.iconst 0, 1) := by decide +kernel
theorem dX12_hired_89 : decode cX12_hired 89 = .ok (.iaload, 1) := by decide +kernel
theorem dX12_hired_90 : decode cX12_hired 90 = .ok (.iconst 0, 1) := by decide +kernel
theorem dX12_hired_91 : decode cX12_hired 91 = .ok (.invokevirtual 176, 3) := by decide +kernel
theorem dX12_hired_94 : decode cX12_hired 94 = .ok (.aload_n 0, 1) := by decide +kernel
theorem dX12_hired_95 : decode cX12_hired 95 = .ok (.getfield 170, 3) := by decide +kernel
theorem dX12_hired_98 : decode cX12_hired 98 = .ok (.istore_n 2, 1) := by decide +kernel
theorem dX12_hired_99 : decode cX12_hired 99 = .ok (.aload_n 0, 1) := by decide +kernel
theorem dX12_hired_100 : decode cX12_hired 100 = .ok (.getfield 173, 3) := by decide +kernel
theorem dX12_hired_103 : decode cX12_hired 103 = .ok (.istore_n 3, 1) := by decide +kernel
theorem dX12_hired_104 : decode cX12_hired 104 = .ok (.aload_n 0, 1) := by decide +kernel
theorem dX12_hired_105 : decode cX12_hired 105 = .ok (.getfield 30, 3) := by decide +kernel
theorem dX12_hired_108 : decode cX12_hired 108 = .ok (.iconst 4, 1) := by decide +kernel
theorem dX12_hired_109 : decode cX12_hired 109 = .ok (.iload_n 2, 1) := by decide +kernel
theorem dX12_hired_110 : decode cX12_hired 110 = .ok (.imul, 1) := by decide +kernel
theorem dX12_hired_111 : decode cX12_hired 111 = .ok (.iload_n 3, 1) := by decide +kernel
theorem dX12_hired_112 : decode cX12_hired 112 = .ok (.iadd, 1) := by decide +kernel
theorem dX12_hired_113 : decode cX12_hired 113 = .ok (.iconst 2, 1) := by decide +kernel
theorem dX12_hired_114 : decode cX12_hired 114 = .ok (.iadd, 1) := by decide +kernel
theorem dX12_hired_115 : decode cX12_hired 115 = .ok (.iaload, 1) := by decide +kernel
theorem dX12_hired_116 : decode cX12_hired 116 = .ok (.istore 4, 2) := by decide +kernel
theorem dX12_hired_118 : decode cX12_hired 118 = .ok (.iconst 0, 1) := by decide +kernel
theorem dX12_hired_119 : decode cX12_hired 119 = .ok (.istore 5, 2) := by decide +kernel
theorem dX12_hired_121 : decode cX12_hired 121 = .ok (.iload 5, 2) := by decide +kernel
theorem dX12_hired_123 : decode cX12_hired 123 = .ok (.iload_n 1, 1) := by decide +kernel
theorem dX12_hired_124 : decode cX12_hired 124 = .ok (.if_icmp .gt 49, 3) := by decide +kernel
theorem dX12_hired_127 : decode cX12_hired 127 = .ok (.aload_n 0, 1) := by decide +kernel
theorem dX12_hired_128 : decode cX12_hired 128 = .ok (.iload 5, 2) := by decide +kernel
theorem dX12_hired_130 : decode cX12_hired 130 = .ok (.iload_n 2, 1) := by decide +kernel
theorem dX12_hired_131 : decode cX12_hired 131 = .ok (.iload_n 3, 1) := by decide +kernel
theorem dX12_hired_132 : decode cX12_hired 132 = .ok (.invokevirtual 183, 3) := by decide +kernel
theorem dX12_hired_135 : decode cX12_hired 135 = .ok (.istore 6, 2) := by decide +kernel
theorem dX12_hired_137 : decode cX12_hired 137 = .ok (.iload 5, 2) := by decide +kernel
theorem dX12_hired_139 : decode cX12_hired 139 = .ok (.iload_n 1, 1) := by decide +kernel
theorem dX12_hired_140 : decode cX12_hired 140 = .ok (.if_icmp .ne 8, 3) := by decide +kernel
theorem dX12_hired_143 : decode cX12_hired 143 = .ok (.iload 6, 2) := by decide +kernel
theorem dX12_hired_145 : decode cX12_hired 145 = .ok (.iload_n 2, 1) := by decide +kernel
theorem dX12_hired_146 : decode cX12_hired 146 = .ok (.isub, 1) := by decide +kernel
theorem dX12_hired_147 : decode cX12_hired 147 = .ok (.ireturn, 1) := by decide +kernel
theorem dX12_hired_148 : decode cX12_hired 148 = .ok (.aload_n 0, 1) := by decide +kernel
theorem dX12_hired_149 : decode cX12_hired 149 = .ok (.iload 5, 2) := by decide +kernel
theorem dX12_hired_151 : decode cX12_hired 151 = .ok (.iload 6, 2) := by decide +kernel
theorem dX12_hired_153 : decode cX12_hired 153 = .ok (.iload_n 3, 1) := by decide +kernel
theorem dX12_hired_154 : decode cX12_hired 154 = .ok (.invokevirtual 176, 3) := by decide +kernel
theorem dX12_hired_157 : decode cX12_hired 157 = .ok (.aload_n 0, 1) := by decide +kernel
theorem dX12_hired_158 : decode cX12_hired 158 = .ok (.getfield 170, 3) := by decide +kernel
theorem dX12_hired_161 : decode cX12_hired 161 = .ok (.istore_n 2, 1) := by decide +kernel
theorem dX12_hired_162 : decode cX12_hired 162 = .ok (.aload_n 0, 1) := by decide +kernel
theorem dX12_hired_163 : decode cX12_hired 163 = .ok (.getfield 173, 3) := by decide +kernel
theorem dX12_hired_166 : decode cX12_hired 166 = .ok (.istore_n 3, 1) := by decide +kernel
theorem dX12_hired_167 : decode cX12_hired 167 = .ok (.iinc 5 1, 3) := by decide +kernel
theorem dX12_hired_170 : decode cX12_hired 170 = .ok (.goto (-49), 3) := by decide +kernel
theorem dX12_hired_173 : decode cX12_hired 173 = .ok (.iload 4, 2) := by decide +kernel
theorem dX12_hired_175 : decode cX12_hired 175 = .ok (.ireturn, 1) := by decide +kernel
set_option maxRecDepth 20000 in
theorem ggX12_findTurns_X12_ofPasser : GoodIn wsX12_findTurns wsX12_ofPasser := goodIn_r _ [8, 1, 12, 13, 14, 15, 16, 17, 18, 19, 20, 21, 22, 23, 24, 25, 26, 27, 28, 29, 30, 31, 32, 33, 34] (by decide +kernel) (by decide +kernel)
set_option maxRecDepth 20000 in
theorem gX12_findTurns_X12_ofPasser : GoodIn wsX12_findTurns (wsV RX12 67 RX12 yX12_ofPasser wsX12_ofPasser) := goodIn_app (goodIn_of _ (by decide +kernel)) ggX12_findTurns_X12_ofPasser
set_option maxRecDepth 20000 in
theorem ggX12_findTurns_X12_apart : GoodIn wsX12_findTurns wsX12_apart := goodIn_r _ [11] (by decide +kernel) (by decide +kernel)
set_option maxRecDepth 20000 in
theorem gX12_findTurns_X12_apart : GoodIn wsX12_findTurns (va_wsS RX12 167 yX12_apart wsX12_apart) := goodIn_app (goodIn_of _ (by decide +kernel)) ggX12_findTurns_X12_apart
theorem dX12_findTurns_0 : decode cX12_findTurns 0 = .ok (.aload_n 0, 1) := by decide +kernel
theorem dX12_findTurns_1 : decode cX12_findTurns 1 = .ok (.getfield 7, 3) := by decide +kernel
theorem dX12_findTurns_4 : decode cX12_findTurns 4 = .ok (.iconst 2, 1) := by decide +kernel
theorem dX12_findTurns_5 : decode cX12_findTurns 5 = .ok (.iaload, 1) := by decide +kernel
theorem dX12_findTurns_6 : decode cX12_findTurns 6 = .ok (.istore_n 1, 1) := by decide +kernel
theorem dX12_findTurns_7 : decode cX12_findTurns 7 = .ok (.iconst 0, 1) := by decide +kernel
theorem dX12_findTurns_8 : decode cX12_findTurns 8 = .ok (.istore_n 2, 1) := by decide +kernel
theorem dX12_findTurns_9 : decode cX12_findTurns 9 = .ok (.iload_n 2, 1) := by decide +kernel
theorem dX12_findTurns_10 : decode cX12_findTurns 10 = .ok (.bipush 30, 2) := by decide +kernel
theorem dX12_findTurns_12 : decode cX12_findTurns 12 = .ok (.if_icmp .gt 21, 3) := by decide +kernel
theorem dX12_findTurns_15 : decode cX12_findTurns 15 = .ok (.aload_n 0, 1) := by decide +kernel
theorem dX12_findTurns_16 : decode cX12_findTurns 16 = .ok (.getfield 36, 3) := by decide +kernel
theorem dX12_findTurns_19 : decode cX12_findTurns 19 = .ok (.bipush 31, 2) := by decide +kernel
theorem dX12_findTurns_21 : decode cX12_findTurns 21 = .ok (.iload_n 1, 1) := by decide +kernel
theorem dX12_findTurns_22 : decode cX12_findTurns 22 = .ok (.imul, 1) := by decide +kernel
theorem dX12_findTurns_23 : decode cX12_findTurns 23 = .ok (.iload_n 2, 1) := by decide +kernel
theorem dX12_findTurns_24 : decode cX12_findTurns 24 = .ok (.iadd, 1) := by decide +kernel
theorem dX12_findTurns_25 : decode cX12_findTurns 25 = .ok (.iload_n 2, 1) := by decide +kernel
theorem dX12_findTurns_26 : decode cX12_findTurns 26 = .ok (.iastore, 1) := by decide +kernel
theorem dX12_findTurns_27 : decode cX12_findTurns 27 = .ok (.iinc 2 1, 3) := by decide +kernel
theorem dX12_findTurns_30 : decode cX12_findTurns 30 = .ok (.goto (-21), 3) := by decide +kernel
theorem dX12_findTurns_33 : decode cX12_findTurns 33 = .ok (.iload_n 1, 1) := by decide +kernel
theorem dX12_findTurns_34 : decode cX12_findTurns 34 = .ok (.iconst 1, 1) := by decide +kernel
theorem dX12_findTurns_35 : decode cX12_findTurns 35 = .ok (.isub, 1) := by decide +kernel
theorem dX12_findTurns_36 : decode cX12_findTurns 36 = .ok (.istore_n 2, 1) := by decide +kernel
theorem dX12_findTurns_37 : decode cX12_findTurns 37 = .ok (.iload_n 2, 1) := by decide +kernel
theorem dX12_findTurns_38 : decode cX12_findTurns 38 = .ok (.ifCond .lt 223, 3) := by decide +kernel
theorem dX12_findTurns_41 : decode cX12_findTurns 41 = .ok (.aload_n 0, 1) := by decide +kernel
theorem dX12_findTurns_42 : decode cX12_findTurns 42 = .ok (.iload_n 2, 1) := by decide +kernel
theorem dX12_findTurns_43 : decode cX12_findTurns 43 = .ok (.iconst 3, 1) := by decide +kernel
theorem dX12_findTurns_44 : decode cX12_findTurns 44 = .ok (.invokevirtual 67, 3) := by decide +kernel
theorem dX12_findTurns_47 : decode cX12_findTurns 47 = .ok (.istore_n 3, 1) := by decide +kernel
theorem dX12_findTurns_48 : decode cX12_findTurns 48 = .ok (.iconst 0, 1) := by decide +kernel
theorem dX12_findTurns_49 : decode cX12_findTurns 49 = .ok (.istore 4, 2) := by decide +kernel
theorem dX12_findTurns_51 : decode cX12_findTurns 51 = .ok (.iload 4, 2) := by decide +kernel
theorem dX12_findTurns_53 : decode cX12_findTurns 53 = .ok (.bipush 30, 2) := by decide +kernel
theorem dX12_findTurns_55 : decode cX12_findTurns 55 = .ok (.if_icmp .gt 200, 3) := by decide +kernel
theorem dX12_findTurns_58 : decode cX12_findTurns 58 = .ok (.iconst 0, 1) := by decide +kernel
theorem dX12_findTurns_59 : decode cX12_findTurns 59 = .ok (.istore 5, 2) := by decide +kernel
theorem dX12_findTurns_61 : decode cX12_findTurns 61 = .ok (.aload_n 0, 1) := by decide +kernel
theorem dX12_findTurns_62 : decode cX12_findTurns 62 = .ok (.getfield 36, 3) := by decide +kernel
theorem dX12_findTurns_65 : decode cX12_findTurns 65 = .ok (.bipush 31, 2) := by decide +kernel
theorem dX12_findTurns_67 : decode cX12_findTurns 67 = .ok (.iload_n 2, 1) := by decide +kernel
theorem dX12_findTurns_68 : decode cX12_findTurns 68 = .ok (.imul, 1) := by decide +kernel
theorem dX12_findTurns_69 : decode cX12_findTurns 69 = .ok (.bipush 31, 2) := by decide +kernel
theorem dX12_findTurns_71 : decode cX12_findTurns 71 = .ok (.iadd, 1) := by decide +kernel
theorem dX12_findTurns_72 : decode cX12_findTurns 72 = .ok (.iload 4, 2) := by decide +kernel
theorem dX12_findTurns_74 : decode cX12_findTurns 74 = .ok (.iadd, 1) := by decide +kernel
theorem dX12_findTurns_75 : decode cX12_findTurns 75 = .ok (.iaload, 1) := by decide +kernel
theorem dX12_findTurns_76 : decode cX12_findTurns 76 = .ok (.iload_n 3, 1) := by decide +kernel
theorem dX12_findTurns_77 : decode cX12_findTurns 77 = .ok (.invokestatic 167, 3) := by decide +kernel
theorem dX12_findTurns_80 : decode cX12_findTurns 80 = .ok (.istore 6, 2) := by decide +kernel
theorem dX12_findTurns_82 : decode cX12_findTurns 82 = .ok (.iconst (-1), 1) := by decide +kernel
theorem dX12_findTurns_83 : decode cX12_findTurns 83 = .ok (.istore 7, 2) := by decide +kernel
theorem dX12_findTurns_85 : decode cX12_findTurns 85 = .ok (.iload 7, 2) := by decide +kernel
theorem dX12_findTurns_87 : decode cX12_findTurns 87 = .ok (.iconst 2, 1) := by decide +kernel
theorem dX12_findTurns_88 : decode cX12_findTurns 88 = .ok (.if_icmp .ge 117, 3) := by decide +kernel
theorem dX12_findTurns_91 : decode cX12_findTurns 91 = .ok (.iload 7, 2) := by decide +kernel
theorem dX12_findTurns_93 : decode cX12_findTurns 93 = .ok (.ifCond .ge 16, 3) := by decide +kernel
theorem dX12_findTurns_96 : decode cX12_findTurns 96 = .ok (.iload 4, 2) := by decide +kernel
theorem dX12_findTurns_98 : decode cX12_findTurns 98 = .ok (.ifCond .le 7, 3) := by decide +kernel
theorem dX12_findTurns_101 : decode cX12_findTurns 101 = .ok (.iconst 1, 1) := by decide +kernel
theorem dX12_findTurns_102 : decode cX12_findTurns 102 = .ok (.goto 29, 3) := by decide +kernel
theorem dX12_findTurns_105 : decode cX12_findTurns 105 = .ok (.iconst 0, 1) := by decide +kernel
theorem dX12_findTurns_106 : decode cX12_findTurns 106 = .ok (.goto 25, 3) := by decide +kernel
theorem dX12_findTurns_109 : decode cX12_findTurns 109 = .ok (.iload 4, 2) := by decide +kernel
theorem dX12_findTurns_111 : decode cX12_findTurns 111 = .ok (.bipush 30, 2) := by decide +kernel
theorem dX12_findTurns_113 : decode cX12_findTurns 113 = .ok (.if_icmp .ge 17, 3) := by decide +kernel
theorem dX12_findTurns_116 : decode cX12_findTurns 116 = .ok (.aload_n 0, 1) := by decide +kernel
theorem dX12_findTurns_117 : decode cX12_findTurns 117 = .ok (.iload_n 2, 1) := by decide +kernel
theorem dX12_findTurns_118 : decode cX12_findTurns 118 = .ok (.iconst 2, 1) := by decide +kernel
theorem dX12_findTurns_119 : decode cX12_findTurns 119 = .ok (.invokevirtual 67, 3) := by decide +kernel
theorem dX12_findTurns_122 : decode cX12_findTurns 122 = .ok (.iconst 1, 1) := by decide +kernel
theorem dX12_findTurns_123 : decode cX12_findTurns 123 = .ok (.if_icmp .ne 7, 3) := by decide +kernel
theorem dX12_findTurns_126 : decode cX12_findTurns 126 = .ok (.iconst 1, 1) := by decide +kernel
theorem dX12_findTurns_127 : decode cX12_findTurns 127 = .ok (.goto 4, 3) := by decide +kernel
theorem dX12_findTurns_130 : decode cX12_findTurns 130 = .ok (.iconst 0, 1) := by decide +kernel
theorem dX12_findTurns_131 : decode cX12_findTurns 131 = .ok (.istore 8, 2) := by decide +kernel
theorem dX12_findTurns_133 : decode cX12_findTurns 133 = .ok (.iload 8, 2) := by decide +kernel
theorem dX12_findTurns_135 : decode cX12_findTurns 135 = .ok (.ifCond .eq 28, 3) := by decide +kernel
theorem dX12_findTurns_138 : decode cX12_findTurns 138 = .ok (.aload_n 0, 1) := by decide +kernel
theorem dX12_findTurns_139 : decode cX12_findTurns 139 = .ok (.getfield 36, 3) := by decide +kernel
theorem dX12_findTurns_142 : decode cX12_findTurns 142 = .ok (.bipush 31, 2) := by decide +kernel
theorem dX12_findTurns_144 : decode cX12_findTurns 144 = .ok (.iload_n 2, 1) := by decide +kernel
theorem dX12_findTurns_145 : decode cX12_findTurns 145 = .ok (.imul, 1) := by decide +kernel
theorem dX12_findTurns_146 : decode cX12_findTurns 146 = .ok (.bipush 31, 2) := by decide +kernel
theorem dX12_findTurns_148 : decode cX12_findTurns 148 = .ok (.iadd, 1) := by decide +kernel
theorem dX12_findTurns_149 : decode cX12_findTurns 149 = .ok (.iload 4, 2) := by decide +kernel
theorem dX12_findTurns_151 : decode cX12_findTurns 151 = .ok (.iadd, 1) := by decide +kernel
theorem dX12_findTurns_152 : decode cX12_findTurns 152 = .ok (.iload 7, 2) := by decide +kernel
theorem dX12_findTurns_154 : decode cX12_findTurns 154 = .ok (.iadd, 1) := by decide +kernel
theorem dX12_findTurns_155 : decode cX12_findTurns 155 = .ok (.iaload, 1) := by decide +kernel
theorem dX12_findTurns_156 : decode cX12_findTurns 156 = .ok (.iload_n 3, 1) := by decide +kernel
theorem dX12_findTurns_157 : decode cX12_findTurns 157 = .ok (.invokestatic 167, 3) := by decide +kernel
theorem dX12_findTurns_160 : decode cX12_findTurns 160 = .ok (.goto 5, 3) := by decide +kernel
theorem dX12_findTurns_163 : decode cX12_findTurns 163 = .ok (.iload 6, 2) := by decide +kernel
theorem dX12_findTurns_165 : decode cX12_findTurns 165 = .ok (.istore 9, 2) := by decide +kernel
theorem dX12_findTurns_167 : decode cX12_findTurns 167 = .ok (.iload 9, 2) := by decide +kernel
theorem dX12_findTurns_169 : decode cX12_findTurns 169 = .ok (.iload 6, 2) := by decide +kernel
theorem dX12_findTurns_171 : decode cX12_findTurns 171 = .ok (.if_icmp .ge 8, 3) := by decide +kernel
theorem dX12_findTurns_174 : decode cX12_findTurns 174 = .ok (.iload 7, 2) := by decide +kernel
theorem dX12_findTurns_176 : decode cX12_findTurns 176 = .ok (.goto 5, 3) := by decide +kernel
theorem dX12_findTurns_179 : decode cX12_findTurns 179 = .ok (.iload 5, 2) := by decide +kernel
theorem dX12_findTurns_181 : decode cX12_findTurns 181 = .ok (.istore 5, 2) := by decide +kernel
theorem dX12_findTurns_183 : decode cX12_findTurns 183 = .ok (.iload 9, 2) := by decide +kernel
theorem dX12_findTurns_185 : decode cX12_findTurns 185 = .ok (.iload 6, 2) := by decide +kernel
theorem dX12_findTurns_187 : decode cX12_findTurns 187 = .ok (.if_icmp .ge 8, 3) := by decide +kernel
theorem dX12_findTurns_190 : decode cX12_findTurns 190 = .ok (.iload 9, 2) := by decide +kernel
theorem dX12_findTurns_192 : decode cX12_findTurns 192 = .ok (.goto 5, 3) := by decide +kernel
theorem dX12_findTurns_195 : decode cX12_findTurns 195 = .ok (.iload 6, 2) := by decide +kernel
theorem dX12_findTurns_197 : decode cX12_findTurns 197 = .ok (.istore 6, 2) := by decide +kernel
theorem dX12_findTurns_199 : decode cX12_findTurns 199 = .ok (.iinc 7 2, 3) := by decide +kernel
theorem dX12_findTurns_202 : decode cX12_findTurns 202 = .ok (.goto (-117), 3) := by decide +kernel
theorem dX12_findTurns_205 : decode cX12_findTurns 205 = .ok (.aload_n 0, 1) := by decide +kernel
theorem dX12_findTurns_206 : decode cX12_findTurns 206 = .ok (.getfield 33, 3) := by decide +kernel
theorem dX12_findTurns_209 : decode cX12_findTurns 209 = .ok (.bipush 31, 2) := by decide +kernel
theorem dX12_findTurns_211 : decode cX12_findTurns 211 = .ok (.iload_n 2, 1) := by decide +kernel
theorem dX12_findTurns_212 : decode cX12_findTurns 212 = .ok (.imul, 1) := by decide +kernel
theorem dX12_findTurns_213 : decode cX12_findTurns 213 = .ok (.iload 4, 2) := by decide +kernel
theorem dX12_findTurns_215 : decode cX12_findTurns 215 = .ok (.iadd, 1) := by decide +kernel
theorem dX12_findTurns_216 : decode cX12_findTurns 216 = .ok (.iload 5, 2) := by decide +kernel
theorem dX12_findTurns_218 : decode cX12_findTurns 218 = .ok (.iastore, 1) := by decide +kernel
theorem dX12_findTurns_219 : decode cX12_findTurns 219 = .ok (.aload_n 0, 1) := by decide +kernel
theorem dX12_findTurns_220 : decode cX12_findTurns 220 = .ok (.getfield 36, 3) := by decide +kernel
theorem dX12_findTurns_223 : decode cX12_findTurns 223 = .ok (.bipush 31, 2) := by decide +kernel
theorem dX12_findTurns_225 : decode cX12_findTurns 225 = .ok (.iload_n 2, 1) := by decide +kernel
theorem dX12_findTurns_226 : decode cX12_findTurns 226 = .ok (.imul, 1) := by decide +kernel
theorem dX12_findTurns_227 : decode cX12_findTurns 227 = .ok (.iload 4, 2) := by decide +kernel
theorem dX12_findTurns_229 : decode cX12_findTurns 229 = .ok (.iadd, 1) := by decide +kernel
theorem dX12_findTurns_230 : decode cX12_findTurns 230 = .ok (.aload_n 0, 1) := by decide +kernel
theorem dX12_findTurns_231 : decode cX12_findTurns 231 = .ok (.getfield 36, 3) := by decide +kernel
theorem dX12_findTurns_234 : decode cX12_findTurns 234 = .ok (.bipush 31, 2) := by decide +kernel
theorem dX12_findTurns_236 : decode cX12_findTurns 236 = .ok (.iload_n 2, 1) := by decide +kernel
theorem dX12_findTurns_237 : decode cX12_findTurns 237 = .ok (.imul, 1) := by decide +kernel
theorem dX12_findTurns_238 : decode cX12_findTurns 238 = .ok (.bipush 31, 2) := by decide +kernel
theorem dX12_findTurns_240 : decode cX12_findTurns 240 = .ok (.iadd, 1) := by decide +kernel
theorem dX12_findTurns_241 : decode cX12_findTurns 241 = .ok (.iload 4, 2) := by decide +kernel
theorem dX12_findTurns_243 : decode cX12_findTurns 243 = .ok (.iadd, 1) := by decide +kernel
theorem dX12_findTurns_244 : decode cX12_findTurns 244 = .ok (.iload 5, 2) := by decide +kernel
theorem dX12_findTurns_246 : decode cX12_findTurns 246 = .ok (.iadd, 1) := by decide +kernel
theorem dX12_findTurns_247 : decode cX12_findTurns 247 = .ok (.iaload, 1) := by decide +kernel
theorem dX12_findTurns_248 : decode cX12_findTurns 248 = .ok (.iastore, 1) := by decide +kernel
theorem dX12_findTurns_249 : decode cX12_findTurns 249 = .ok (.iinc 4 1, 3) := by decide +kernel
theorem dX12_findTurns_252 : decode cX12_findTurns 252 = .ok (.goto (-201), 3) := by decide +kernel
theorem dX12_findTurns_255 : decode cX12_findTurns 255 = .ok (.iinc 2 (-1), 3) := by decide +kernel
theorem dX12_findTurns_258 : decode cX12_findTurns 258 = .ok (.goto (-221), 3) := by decide +kernel
theorem dX12_findTurns_261 : decode cX12_findTurns 261 = .ok (.return_, 1) := by decide +kernel
set_option maxRecDepth 20000 in
theorem ggX12_turns_X12_in : GoodIn wsX12_turns wsX12_in := goodIn_r _ [7] (by decide +kernel) (by decide +kernel)
set_option maxRecDepth 20000 in
theorem gX12_turns_X12_in : GoodIn wsX12_turns (va_wsS RX12 63 yX12_in wsX12_in) := goodIn_app (goodIn_of _ (by decide +kernel)) ggX12_turns_X12_in
set_option maxRecDepth 20000 in
theorem ggX12_turns_X12_bad : GoodIn wsX12_turns wsX12_bad := goodIn_r _ [11, 12, 24, 25, 26, 27, 28, 29, 30, 31, 32, 33, 34, 35, 36, 37, 38, 39, 40, 41, 42, 43, 44, 45, 46] (by decide +kernel) (by decide +kernel)
set_option maxRecDepth 20000 in
theorem gX12_turns_X12_bad : GoodIn wsX12_turns (wsV RX12 56 RX12 yX12_bad wsX12_bad) := goodIn_app (goodIn_of _ (by decide +kernel)) ggX12_turns_X12_bad
set_option maxRecDepth 20000 in
theorem ggX12_turns_X12_findTurns : GoodIn wsX12_turns wsX12_findTurns := goodIn_r _ [16, 1, 3, 2, 17, 18, 19, 6, 20, 21, 22, 23, 24, 25, 26, 27, 28, 29, 30, 31, 32, 33, 34, 35, 36, 37, 38, 39, 40, 41, 42, 43, 44, 45, 46] (by decide +kernel) (by decide +kernel)
set_option maxRecDepth 20000 in
theorem gX12_turns_X12_findTurns : GoodIn wsX12_turns (wsV RX12 186 RX12 yX12_findTurns wsX12_findTurns) := goodIn_app (goodIn_of _ (by decide +kernel)) ggX12_turns_X12_findTurns
theorem dX12_turns_0 : decode cX12_turns 0 = .ok (.iload_n 1, 1) := by decide +kernel
theorem dX12_turns_1 : decode cX12_turns 1 = .ok (.iconst (-1), 1) := by decide +kernel
theorem dX12_turns_2 : decode cX12_turns 2 = .ok (.aload_n 0, 1) := by decide +kernel
theorem dX12_turns_3 : decode cX12_turns 3 = .ok (.getfield 7, 3) := by decide +kernel
theorem dX12_turns_6 : decode cX12_turns 6 = .ok (.iconst 2, 1) := by decide +kernel
theorem dX12_turns_7 : decode cX12_turns 7 = .ok (.iaload, 1) := by decide +kernel
theorem dX12_turns_8 : decode cX12_turns 8 = .ok (.iconst 1, 1) := by decide +kernel
theorem dX12_turns_9 : decode cX12_turns 9 = .ok (.isub, 1) := by decide +kernel
theorem dX12_turns_10 : decode cX12_turns 10 = .ok (.invokestatic 63, 3) := by decide +kernel
theorem dX12_turns_13 : decode cX12_turns 13 = .ok (.ifCond .ne 11, 3) := by decide +kernel
theorem dX12_turns_16 : decode cX12_turns 16 = .ok (.aload_n 0, 1) := by decide +kernel
theorem dX12_turns_17 : decode cX12_turns 17 = .ok (.invokevirtual 56, 3) := by decide +kernel
theorem dX12_turns_20 : decode cX12_turns 20 = .ok (.pop, 1) := by decide +kernel
theorem dX12_turns_21 : decode cX12_turns 21 = .ok (.bipush (-10), 2) := by decide +kernel
theorem dX12_turns_23 : decode cX12_turns 23 = .ok (.ireturn, 1) := by decide +kernel
theorem dX12_turns_24 : decode cX12_turns 24 = .ok (.aload_n 0, 1) := by decide +kernel
theorem dX12_turns_25 : decode cX12_turns 25 = .ok (.invokevirtual 186, 3) := by decide +kernel
theorem dX12_turns_28 : decode cX12_turns 28 = .ok (.aload_n 0, 1) := by decide +kernel
theorem dX12_turns_29 : decode cX12_turns 29 = .ok (.getfield 7, 3) := by decide +kernel
theorem dX12_turns_32 : decode cX12_turns 32 = .ok (.iconst 0, 1) := by decide +kernel
theorem dX12_turns_33 : decode cX12_turns 33 = .ok (.iaload, 1) := by decide +kernel
theorem dX12_turns_34 : decode cX12_turns 34 = .ok (.istore_n 2, 1) := by decide +kernel
theorem dX12_turns_35 : decode cX12_turns 35 = .ok (.iconst 0, 1) := by decide +kernel
theorem dX12_turns_36 : decode cX12_turns 36 = .ok (.istore_n 3, 1) := by decide +kernel
theorem dX12_turns_37 : decode cX12_turns 37 = .ok (.iload_n 3, 1) := by decide +kernel
theorem dX12_turns_38 : decode cX12_turns 38 = .ok (.iload_n 1, 1) := by decide +kernel
theorem dX12_turns_39 : decode cX12_turns 39 = .ok (.if_icmp .ge 23, 3) := by decide +kernel
theorem dX12_turns_42 : decode cX12_turns 42 = .ok (.iload_n 2, 1) := by decide +kernel
theorem dX12_turns_43 : decode cX12_turns 43 = .ok (.aload_n 0, 1) := by decide +kernel
theorem dX12_turns_44 : decode cX12_turns 44 = .ok (.getfield 33, 3) := by decide +kernel
theorem dX12_turns_47 : decode cX12_turns 47 = .ok (.bipush 31, 2) := by decide +kernel
theorem dX12_turns_49 : decode cX12_turns 49 = .ok (.iload_n 3, 1) := by decide +kernel
theorem dX12_turns_50 : decode cX12_turns 50 = .ok (.imul, 1) := by decide +kernel
theorem dX12_turns_51 : decode cX12_turns 51 = .ok (.iload_n 2, 1) := by decide +kernel
theorem dX12_turns_52 : decode cX12_turns 52 = .ok (.iadd, 1) := by decide +kernel
theorem dX12_turns_53 : decode cX12_turns 53 = .ok (.iaload, 1) := by decide +kernel
theorem dX12_turns_54 : decode cX12_turns 54 = .ok (.iadd, 1) := by decide +kernel
theorem dX12_turns_55 : decode cX12_turns 55 = .ok (.istore_n 2, 1) := by decide +kernel
theorem dX12_turns_56 : decode cX12_turns 56 = .ok (.iinc 3 1, 3) := by decide +kernel
theorem dX12_turns_59 : decode cX12_turns 59 = .ok (.goto (-22), 3) := by decide +kernel
theorem dX12_turns_62 : decode cX12_turns 62 = .ok (.iload_n 1, 1) := by decide +kernel
theorem dX12_turns_63 : decode cX12_turns 63 = .ok (.iconst (-1), 1) := by decide +kernel
theorem dX12_turns_64 : decode cX12_turns 64 = .ok (.if_icmp .ne 12, 3) := by decide +kernel
theorem dX12_turns_67 : decode cX12_turns 67 = .ok (.aload_n 0, 1) := by decide +kernel
theorem dX12_turns_68 : decode cX12_turns 68 = .ok (.getfield 36, 3) := by decide +kernel
theorem dX12_turns_71 : decode cX12_turns 71 = .ok (.iload_n 2, 1) := by decide +kernel
theorem dX12_turns_72 : decode cX12_turns 72 = .ok (.iaload, 1) := by decide +kernel
theorem dX12_turns_73 : decode cX12_turns 73 = .ok (.goto 14, 3) := by decide +kernel
theorem dX12_turns_76 : decode cX12_turns 76 = .ok (.aload_n 0, 1) := by decide +kernel
theorem dX12_turns_77 : decode cX12_turns 77 = .ok (.getfield 33, 3) := by decide +kernel
theorem dX12_turns_80 : decode cX12_turns 80 = .ok (.bipush 31, 2) := by decide +kernel
theorem dX12_turns_82 : decode cX12_turns 82 = .ok (.iload_n 1, 1) := by decide +kernel
theorem dX12_turns_83 : decode cX12_turns 83 = .ok (.imul, 1) := by decide +kernel
theorem dX12_turns_84 : decode cX12_turns 84 = .ok (.iload_n 2, 1) := by decide +kernel
theorem dX12_turns_85 : decode cX12_turns 85 = .ok (.iadd, 1) := by decide +kernel
theorem dX12_turns_86 : decode cX12_turns 86 = .ok (.iaload, 1) := by decide +kernel
theorem dX12_turns_87 : decode cX12_turns 87 = .ok (.ireturn, 1) := by decide +kernel
set_option maxRecDepth 20000 in
theorem ggX12_treaty_X12_ofPasser : GoodIn wsX12_treaty wsX12_ofPasser := goodIn_r _ [6, 1, 10, 11, 12, 13, 14, 15, 16, 17, 18, 19, 20, 21, 22, 23, 24, 25, 26, 27, 28, 29, 30, 31, 32] (by decide +kernel) (by decide +kernel)
set_option maxRecDepth 20000 in
theorem gX12_treaty_X12_ofPasser : GoodIn wsX12_treaty (wsV RX12 67 RX12 yX12_ofPasser wsX12_ofPasser) := goodIn_app (goodIn_of _ (by decide +kernel)) ggX12_treaty_X12_ofPasser
set_option maxRecDepth 20000 in
theorem ggX12_treaty_X12_apart : GoodIn wsX12_treaty wsX12_apart := goodIn_r _ [9] (by decide +kernel) (by decide +kernel)
set_option maxRecDepth 20000 in
theorem gX12_treaty_X12_apart : GoodIn wsX12_treaty (va_wsS RX12 167 yX12_apart wsX12_apart) := goodIn_app (goodIn_of _ (by decide +kernel)) ggX12_treaty_X12_apart
theorem dX12_treaty_0 : decode cX12_treaty 0 = .ok (.aload_n 0, 1) := by decide +kernel
theorem dX12_treaty_1 : decode cX12_treaty 1 = .ok (.getfield 7, 3) := by decide +kernel
theorem dX12_treaty_4 : decode cX12_treaty 4 = .ok (.iconst 2, 1) := by decide +kernel
theorem dX12_treaty_5 : decode cX12_treaty 5 = .ok (.iaload, 1) := by decide +kernel
theorem dX12_treaty_6 : decode cX12_treaty 6 = .ok (.ifCond .ne 5, 3) := by decide +kernel
theorem dX12_treaty_9 : decode cX12_treaty 9 = .ok (.iconst (-1), 1) := by decide +kernel
theorem dX12_treaty_10 : decode cX12_treaty 10 = .ok (.ireturn, 1) := by decide +kernel
theorem dX12_treaty_11 : decode cX12_treaty 11 = .ok (.iconst 0, 1) := by decide +kernel
theorem dX12_treaty_12 : decode cX12_treaty 12 = .ok (.istore_n 1, 1) := by decide +kernel
theorem dX12_treaty_13 : decode cX12_treaty 13 = .ok (.sipush 999, 3) := by decide +kernel
theorem dX12_treaty_16 : decode cX12_treaty 16 = .ok (.istore_n 2, 1) := by decide +kernel
theorem dX12_treaty_17 : decode cX12_treaty 17 = .ok (.iconst 0, 1) := by decide +kernel
theorem dX12_treaty_18 : decode cX12_treaty 18 = .ok (.istore_n 3, 1) := by decide +kernel
theorem dX12_treaty_19 : decode cX12_treaty 19 = .ok (.iload_n 3, 1) := by decide +kernel
theorem dX12_treaty_20 : decode cX12_treaty 20 = .ok (.bipush 30, 2) := by decide +kernel
theorem dX12_treaty_22 : decode cX12_treaty 22 = .ok (.if_icmp .gt 73, 3) := by decide +kernel
theorem dX12_treaty_25 : decode cX12_treaty 25 = .ok (.iconst 0, 1) := by decide +kernel
theorem dX12_treaty_26 : decode cX12_treaty 26 = .ok (.istore 4, 2) := by decide +kernel
theorem dX12_treaty_28 : decode cX12_treaty 28 = .ok (.iconst 0, 1) := by decide +kernel
theorem dX12_treaty_29 : decode cX12_treaty 29 = .ok (.istore 5, 2) := by decide +kernel
theorem dX12_treaty_31 : decode cX12_treaty 31 = .ok (.iload 5, 2) := by decide +kernel
theorem dX12_treaty_33 : decode cX12_treaty 33 = .ok (.aload_n 0, 1) := by decide +kernel
theorem dX12_treaty_34 : decode cX12_treaty 34 = .ok (.getfield 7, 3) := by decide +kernel
theorem dX12_treaty_37 : decode cX12_treaty 37 = .ok (.iconst 2, 1) := by decide +kernel
theorem dX12_treaty_38 : decode cX12_treaty 38 = .ok (.iaload, 1) := by decide +kernel
theorem dX12_treaty_39 : decode cX12_treaty 39 = .ok (.if_icmp .ge 25, 3) := by decide +kernel
theorem dX12_treaty_42 : decode cX12_treaty 42 = .ok (.iload 4, 2) := by decide +kernel
theorem dX12_treaty_44 : decode cX12_treaty 44 = .ok (.iload_n 3, 1) := by decide +kernel
theorem dX12_treaty_45 : decode cX12_treaty 45 = .ok (.aload_n 0, 1) := by decide +kernel
theorem dX12_treaty_46 : decode cX12_treaty 46 = .ok (.iload 5, 2) := by decide +kernel
theorem dX12_treaty_48 : decode cX12_treaty 48 = .ok (.iconst 3, 1) := by decide +kernel
theorem dX12_treaty_49 : decode cX12_treaty 49 = .ok (.invokevirtual 67, 3) := by decide +kernel
theorem dX12_treaty_52 : decode cX12_treaty 52 = .ok (.invokestatic 167, 3) := by decide +kernel
theorem dX12_treaty_55 : decode cX12_treaty 55 = .ok (.iadd, 1) := by decide +kernel
theorem dX12_treaty_56 : decode cX12_treaty 56 = .ok (.istore 4, 2) := by decide +kernel
theorem dX12_treaty_58 : decode cX12_treaty 58 = .ok (.iinc 5 1, 3) := by decide +kernel
theorem dX12_treaty_61 : decode cX12_treaty 61 = .ok (.goto (-30), 3) := by decide +kernel
theorem dX12_treaty_64 : decode cX12_treaty 64 = .ok (.iload 4, 2) := by decide +kernel
theorem dX12_treaty_66 : decode cX12_treaty 66 = .ok (.iload_n 2, 1) := by decide +kernel
theorem dX12_treaty_67 : decode cX12_treaty 67 = .ok (.if_icmp .ge 7, 3) := by decide +kernel
theorem dX12_treaty_70 : decode cX12_treaty 70 = .ok (.iload_n 3, 1) := by decide +kernel
theorem dX12_treaty_71 : decode cX12_treaty 71 = .ok (.goto 4, 3) := by decide +kernel
theorem dX12_treaty_74 : decode cX12_treaty 74 = .ok (.iload_n 1, 1) := by decide +kernel
theorem dX12_treaty_75 : decode cX12_treaty 75 = .ok (.istore_n 1, 1) := by decide +kernel
theorem dX12_treaty_76 : decode cX12_treaty 76 = .ok (.iload 4, 2) := by decide +kernel
theorem dX12_treaty_78 : decode cX12_treaty 78 = .ok (.iload_n 2, 1) := by decide +kernel
theorem dX12_treaty_79 : decode cX12_treaty 79 = .ok (.if_icmp .ge 8, 3) := by decide +kernel
theorem dX12_treaty_82 : decode cX12_treaty 82 = .ok (.iload 4, 2) := by decide +kernel
theorem dX12_treaty_84 : decode cX12_treaty 84 = .ok (.goto 4, 3) := by decide +kernel
theorem dX12_treaty_87 : decode cX12_treaty 87 = .ok (.iload_n 2, 1) := by decide +kernel
theorem dX12_treaty_88 : decode cX12_treaty 88 = .ok (.istore_n 2, 1) := by decide +kernel
theorem dX12_treaty_89 : decode cX12_treaty 89 = .ok (.iinc 3 1, 3) := by decide +kernel
theorem dX12_treaty_92 : decode cX12_treaty 92 = .ok (.goto (-73), 3) := by decide +kernel
theorem dX12_treaty_95 : decode cX12_treaty 95 = .ok (.iload_n 1, 1) := by decide +kernel
theorem dX12_treaty_96 : decode cX12_treaty 96 = .ok (.ireturn, 1) := by decide +kernel
set_option maxRecDepth 20000 in
theorem ggX12_look_X12_addLook : GoodIn wsX12_look wsX12_addLook := goodIn_r _ [5, 6, 7, 8, 4, 9, 23, 24, 25, 26, 27, 28, 29, 30, 31, 32, 33, 34, 35, 36, 37, 38, 39, 40, 41, 42, 43, 44, 45] (by decide +kernel) (by decide +kernel)
set_option maxRecDepth 20000 in
theorem gX12_look_X12_addLook : GoodIn wsX12_look (wsV RX12 139 RX12 yX12_addLook wsX12_addLook) := goodIn_app (goodIn_of _ (by decide +kernel)) ggX12_look_X12_addLook
set_option maxRecDepth 20000 in
theorem ggX12_look_X12_told : GoodIn wsX12_look wsX12_told := goodIn_r _ [13, 14, 15, 16, 4, 17, 18, 19, 20, 21, 22, 23, 24, 25, 26, 27, 28, 29, 30, 31, 32, 33, 34, 35, 36, 37, 38, 39, 40, 41, 42, 43, 44, 45] (by decide +kernel) (by decide +kernel)
set_option maxRecDepth 20000 in
theorem gX12_look_X12_told : GoodIn wsX12_look (wsV RX12 75 RX12 yX12_told wsX12_told) := goodIn_app (goodIn_of _ (by decide +kernel)) ggX12_look_X12_told
theorem dX12_look_0 : decode cX12_look 0 = .ok (.aload_n 0, 1) := by decide +kernel
theorem dX12_look_1 : decode cX12_look 1 = .ok (.aload_n 0, 1) := by decide +kernel
theorem dX12_look_2 : decode cX12_look 2 = .ok (.iload_n 1, 1) := by decide +kernel
theorem dX12_look_3 : decode cX12_look 3 = .ok (.iload_n 2, 1) := by decide +kernel
theorem dX12_look_4 : decode cX12_look 4 = .ok (.invokevirtual 139, 3) := by decide +kernel
theorem dX12_look_7 : decode cX12_look 7 = .ok (.invokevirtual 75, 3) := by decide +kernel
theorem dX12_look_10 : decode cX12_look 10 = .ok (.ireturn, 1) := by decide +kernel
theorem dX12_forget_0 : decode cX12_forget 0 = .ok (.aload_n 0, 1) := by decide +kernel
theorem dX12_forget_1 : decode cX12_forget 1 = .ok (.getfield 7, 3) := by decide +kernel
theorem dX12_forget_4 : decode cX12_forget 4 = .ok (.iconst 4, 1) := by decide +kernel
theorem dX12_forget_5 : decode cX12_forget 5 = .ok (.iconst 0, 1) := by decide +kernel
theorem dX12_forget_6 : decode cX12_forget 6 = .ok (.iastore, 1) := by decide +kernel
theorem dX12_forget_7 : decode cX12_forget 7 = .ok (.aload_n 0, 1) := by decide +kernel
theorem dX12_forget_8 : decode cX12_forget 8 = .ok (.getfield 7, 3) := by decide +kernel
theorem dX12_forget_11 : decode cX12_forget 11 = .ok (.iconst 5, 1) := by decide +kernel
theorem dX12_forget_12 : decode cX12_forget 12 = .ok (.iconst 0, 1) := by decide +kernel
theorem dX12_forget_13 : decode cX12_forget 13 = .ok (.iastore, 1) := by decide +kernel
theorem dX12_forget_14 : decode cX12_forget 14 = .ok (.iconst 1, 1) := by decide +kernel
theorem dX12_forget_15 : decode cX12_forget 15 = .ok (.ireturn, 1) := by decide +kernel
set_option maxRecDepth 20000 in
theorem ggX12_fits_X12_ofPasser : GoodIn wsX12_fits wsX12_ofPasser := goodIn_r _ [6, 1, 7, 8, 9, 10, 11, 12, 13, 14, 15, 16, 17, 18, 19, 20, 21, 22, 23, 24, 25, 26, 27, 28, 29] (by decide +kernel) (by decide +kernel)
set_option maxRecDepth 20000 in
theorem gX12_fits_X12_ofPasser : GoodIn wsX12_fits (wsV RX12 67 RX12 yX12_ofPasser wsX12_ofPasser) := goodIn_app (goodIn_of _ (by decide +kernel)) ggX12_fits_X12_ofPasser
theorem dX12_fits_0 : decode cX12_fits 0 = .ok (.iload_n 1, 1) := by decide +kernel
theorem dX12_fits_1 : decode cX12_fits 1 = .ok (.ifCond .ge 7, 3) := by decide +kernel
theorem dX12_fits_4 : decode cX12_fits 4 = .ok (.iconst (-1), 1) := by decide +kernel
theorem dX12_fits_5 : decode cX12_fits 5 = .ok (.goto 9, 3) := by decide +kernel
theorem dX12_fits_8 : decode cX12_fits 8 = .ok (.aload_n 0, 1) := by decide +kernel
theorem dX12_fits_9 : decode cX12_fits 9 = .ok (.iload_n 1, 1) := by decide +kernel
theorem dX12_fits_10 : decode cX12_fits 10 = .ok (.iconst 0, 1) := by decide +kernel
theorem dX12_fits_11 : decode cX12_fits 11 = .ok (.invokevirtual 67, 3) := by decide +kernel
theorem dX12_fits_14 : decode cX12_fits 14 = .ok (.istore_n 3, 1) := by decide +kernel
theorem dX12_fits_15 : decode cX12_fits 15 = .ok (.iload_n 1, 1) := by decide +kernel
theorem dX12_fits_16 : decode cX12_fits 16 = .ok (.iconst 1, 1) := by decide +kernel
theorem dX12_fits_17 : decode cX12_fits 17 = .ok (.iadd, 1) := by decide +kernel
theorem dX12_fits_18 : decode cX12_fits 18 = .ok (.aload_n 0, 1) := by decide +kernel
theorem dX12_fits_19 : decode cX12_fits 19 = .ok (.getfield 7, 3) := by decide +kernel
theorem dX12_fits_22 : decode cX12_fits 22 = .ok (.iconst 2, 1) := by decide +kernel
theorem dX12_fits_23 : decode cX12_fits 23 = .ok (.iaload, 1) := by decide +kernel
theorem dX12_fits_24 : decode cX12_fits 24 = .ok (.if_icmp .ge 14, 3) := by decide +kernel
theorem dX12_fits_27 : decode cX12_fits 27 = .ok (.aload_n 0, 1) := by decide +kernel
theorem dX12_fits_28 : decode cX12_fits 28 = .ok (.iload_n 1, 1) := by decide +kernel
theorem dX12_fits_29 : decode cX12_fits 29 = .ok (.iconst 1, 1) := by decide +kernel
theorem dX12_fits_30 : decode cX12_fits 30 = .ok (.iadd, 1) := by decide +kernel
theorem dX12_fits_31 : decode cX12_fits 31 = .ok (.iconst 0, 1) := by decide +kernel
theorem dX12_fits_32 : decode cX12_fits 32 = .ok (.invokevirtual 67, 3) := by decide +kernel
theorem dX12_fits_35 : decode cX12_fits 35 = .ok (.goto 5, 3) := by decide +kernel
theorem dX12_fits_38 : decode cX12_fits 38 = .ok (.bipush 100, 2) := by decide +kernel
theorem dX12_fits_40 : decode cX12_fits 40 = .ok (.istore 4, 2) := by decide +kernel
theorem dX12_fits_42 : decode cX12_fits 42 = .ok (.iconst 1, 1) := by decide +kernel
theorem dX12_fits_43 : decode cX12_fits 43 = .ok (.istore 5, 2) := by decide +kernel
theorem dX12_fits_45 : decode cX12_fits 45 = .ok (.iconst 0, 1) := by decide +kernel
theorem dX12_fits_46 : decode cX12_fits 46 = .ok (.istore 6, 2) := by decide +kernel
theorem dX12_fits_48 : decode cX12_fits 48 = .ok (.iload 6, 2) := by decide +kernel
theorem dX12_fits_50 : decode cX12_fits 50 = .ok (.aload_n 0, 1) := by decide +kernel
theorem dX12_fits_51 : decode cX12_fits 51 = .ok (.getfield 7, 3) := by decide +kernel
theorem dX12_fits_54 : decode cX12_fits 54 = .ok (.iconst 5, 1) := by decide +kernel
theorem dX12_fits_55 : decode cX12_fits 55 = .ok (.iaload, 1) := by decide +kernel
theorem dX12_fits_56 : decode cX12_fits 56 = .ok (.if_icmp .ge 66, 3) := by decide +kernel
theorem dX12_fits_59 : decode cX12_fits 59 = .ok (.aload_n 0, 1) := by decide +kernel
theorem dX12_fits_60 : decode cX12_fits 60 = .ok (.getfield 7, 3) := by decide +kernel
theorem dX12_fits_63 : decode cX12_fits 63 = .ok (.bipush 101, 2) := by decide +kernel
theorem dX12_fits_65 : decode cX12_fits 65 = .ok (.iconst 2, 1) := by decide +kernel
theorem dX12_fits_66 : decode cX12_fits 66 = .ok (.iload 6, 2) := by decide +kernel
theorem dX12_fits_68 : decode cX12_fits 68 = .ok (.imul, 1) := by decide +kernel
theorem dX12_fits_69 : decode cX12_fits 69 = .ok (.iadd, 1) := by decide +kernel
theorem dX12_fits_70 : decode cX12_fits 70 = .ok (.iaload, 1) := by decide +kernel
theorem dX12_fits_71 : decode cX12_fits 71 = .ok (.istore 7, 2) := by decide +kernel
theorem dX12_fits_73 : decode cX12_fits 73 = .ok (.iload 5, 2) := by decide +kernel
theorem dX12_fits_75 : decode cX12_fits 75 = .ok (.ifCond .eq 38, 3) := by decide +kernel
theorem dX12_fits_78 : decode cX12_fits 78 = .ok (.iload 7, 2) := by decide +kernel
theorem dX12_fits_80 : decode cX12_fits 80 = .ok (.iload_n 3, 1) := by decide +kernel
theorem dX12_fits_81 : decode cX12_fits 81 = .ok (.if_icmp .lt 28, 3) := by decide +kernel
theorem dX12_fits_84 : decode cX12_fits 84 = .ok (.iload 7, 2) := by decide +kernel
theorem dX12_fits_86 : decode cX12_fits 86 = .ok (.iload 4, 2) := by decide +kernel
theorem dX12_fits_88 : decode cX12_fits 88 = .ok (.if_icmp .ge 21, 3) := by decide +kernel
theorem dX12_fits_91 : decode cX12_fits 91 = .ok (.aload_n 0, 1) := by decide +kernel
theorem dX12_fits_92 : decode cX12_fits 92 = .ok (.getfield 7, 3) := by decide +kernel
theorem dX12_fits_95 : decode cX12_fits 95 = .ok (.bipush 101, 2) := by decide +kernel
theorem dX12_fits_97 : decode cX12_fits 97 = .ok (.iconst 2, 1) := by decide +kernel
theorem dX12_fits_98 : decode cX12_fits 98 = .ok (.iload 6, 2) := by decide +kernel
theorem dX12_fits_100 : decode cX12_fits 100 = .ok (.imul, 1) := by decide +kernel
theorem dX12_fits_101 : decode cX12_fits 101 = .ok (.iadd, 1) := by decide +kernel
theorem dX12_fits_102 : decode cX12_fits 102 = .ok (.iconst 1, 1) := by decide +kernel
theorem dX12_fits_103 : decode cX12_fits 103 = .ok (.iadd, 1) := by decide +kernel
theorem dX12_fits_104 : decode cX12_fits 104 = .ok (.iaload, 1) := by decide +kernel
theorem dX12_fits_105 : decode cX12_fits 105 = .ok (.iload_n 2, 1) := by decide +kernel
theorem dX12_fits_106 : decode cX12_fits 106 = .ok (.if_icmp .ne 7, 3) := by decide +kernel
theorem dX12_fits_109 : decode cX12_fits 109 = .ok (.iconst 1, 1) := by decide +kernel
theorem dX12_fits_110 : decode cX12_fits 110 = .ok (.goto 4, 3) := by decide +kernel
theorem dX12_fits_113 : decode cX12_fits 113 = .ok (.iconst 0, 1) := by decide +kernel
theorem dX12_fits_114 : decode cX12_fits 114 = .ok (.istore 5, 2) := by decide +kernel
theorem dX12_fits_116 : decode cX12_fits 116 = .ok (.iinc 6 1, 3) := by decide +kernel
theorem dX12_fits_119 : decode cX12_fits 119 = .ok (.goto (-71), 3) := by decide +kernel
theorem dX12_fits_122 : decode cX12_fits 122 = .ok (.iload 5, 2) := by decide +kernel
theorem dX12_fits_124 : decode cX12_fits 124 = .ok (.ireturn, 1) := by decide +kernel
set_option maxRecDepth 20000 in
theorem ggX12_rowsBy_X12_fits : GoodIn wsX12_rowsBy wsX12_fits := goodIn_r _ [7, 2, 8, 9, 10, 6, 11, 15, 16, 17, 18, 19, 20, 21, 22, 23, 24, 25, 26, 27, 28, 29, 30, 31, 32, 33, 34, 35, 36, 37] (by decide +kernel) (by decide +kernel)
set_option maxRecDepth 20000 in
theorem gX12_rowsBy_X12_fits : GoodIn wsX12_rowsBy (wsV RX12 189 RX12 yX12_fits wsX12_fits) := goodIn_app (goodIn_of _ (by decide +kernel)) ggX12_rowsBy_X12_fits
set_option maxRecDepth 20000 in
theorem ggX12_rowsBy_X12_in : GoodIn wsX12_rowsBy wsX12_in := goodIn_r _ [14] (by decide +kernel) (by decide +kernel)
set_option maxRecDepth 20000 in
theorem gX12_rowsBy_X12_in : GoodIn wsX12_rowsBy (va_wsS RX12 63 yX12_in wsX12_in) := goodIn_app (goodIn_of _ (by decide +kernel)) ggX12_rowsBy_X12_in
theorem dX12_rowsBy_0 : decode cX12_rowsBy 0 = .ok (.iconst 0, 1) := by decide +kernel
theorem dX12_rowsBy_1 : decode cX12_rowsBy 1 = .ok (.istore_n 3, 1) := by decide +kernel
theorem dX12_rowsBy_2 : decode cX12_rowsBy 2 = .ok (.iload_n 3, 1) := by decide +kernel
theorem dX12_rowsBy_3 : decode cX12_rowsBy 3 = .ok (.sipush 403, 3) := by decide +kernel
theorem dX12_rowsBy_6 : decode cX12_rowsBy 6 = .ok (.if_icmp .ge 16, 3) := by decide +kernel
theorem dX12_rowsBy_9 : decode cX12_rowsBy 9 = .ok (.aload_n 0, 1) := by decide +kernel
theorem dX12_rowsBy_10 : decode cX12_rowsBy 10 = .ok (.getfield 39, 3) := by decide +kernel
theorem dX12_rowsBy_13 : decode cX12_rowsBy 13 = .ok (.iload_n 3, 1) := by decide +kernel
theorem dX12_rowsBy_14 : decode cX12_rowsBy 14 = .ok (.iconst 0, 1) := by decide +kernel
theorem dX12_rowsBy_15 : decode cX12_rowsBy 15 = .ok (.iastore, 1) := by decide +kernel
theorem dX12_rowsBy_16 : decode cX12_rowsBy 16 = .ok (.iinc 3 1, 3) := by decide +kernel
theorem dX12_rowsBy_19 : decode cX12_rowsBy 19 = .ok (.goto (-17), 3) := by decide +kernel
theorem dX12_rowsBy_22 : decode cX12_rowsBy 22 = .ok (.aload_n 0, 1) := by decide +kernel
theorem dX12_rowsBy_23 : decode cX12_rowsBy 23 = .ok (.getfield 39, 3) := by decide +kernel
theorem dX12_rowsBy_26 : decode cX12_rowsBy 26 = .ok (.aload_n 0, 1) := by decide +kernel
theorem dX12_rowsBy_27 : decode cX12_rowsBy 27 = .ok (.getfield 7, 3) := by decide +kernel
theorem dX12_rowsBy_30 : decode cX12_rowsBy 30 = .ok (.iconst 0, 1) := by decide +kernel
theorem dX12_rowsBy_31 : decode cX12_rowsBy 31 = .ok (.iaload, 1) := by decide +kernel
theorem dX12_rowsBy_32 : decode cX12_rowsBy 32 = .ok (.aload_n 0, 1) := by decide +kernel
theorem dX12_rowsBy_33 : decode cX12_rowsBy 33 = .ok (.iconst (-1), 1) := by decide +kernel
theorem dX12_rowsBy_34 : decode cX12_rowsBy 34 = .ok (.aload_n 0, 1) := by decide +kernel
theorem dX12_rowsBy_35 : decode cX12_rowsBy 35 = .ok (.getfield 7, 3) := by decide +kernel
theorem dX12_rowsBy_38 : decode cX12_rowsBy 38 = .ok (.iconst 0, 1) := by decide +kernel
theorem dX12_rowsBy_39 : decode cX12_rowsBy 39 = .ok (.iaload, 1) := by decide +kernel
theorem dX12_rowsBy_40 : decode cX12_rowsBy 40 = .ok (.invokevirtual 189, 3) := by decide +kernel
theorem dX12_rowsBy_43 : decode cX12_rowsBy 43 = .ok (.ifCond .eq 7, 3) := by decide +kernel
theorem dX12_rowsBy_46 : decode cX12_rowsBy 46 = .ok (.iconst 1, 1) := by decide +kernel
theorem dX12_rowsBy_47 : decode cX12_rowsBy 47 = .ok (.goto 4, 3) := by decide +kernel
theorem dX12_rowsBy_50 : decode cX12_rowsBy 50 = .ok (.iconst 0, 1) := by decide +kernel
theorem dX12_rowsBy_51 : decode cX12_rowsBy 51 = .ok (.iastore, 1) := by decide +kernel
theorem dX12_rowsBy_52 : decode cX12_rowsBy 52 = .ok (.iconst 0, 1) := by decide +kernel
theorem dX12_rowsBy_53 : decode cX12_rowsBy 53 = .ok (.istore_n 3, 1) := by decide +kernel
theorem dX12_rowsBy_54 : decode cX12_rowsBy 54 = .ok (.iload_n 3, 1) := by decide +kernel
theorem dX12_rowsBy_55 : decode cX12_rowsBy 55 = .ok (.aload_n 0, 1) := by decide +kernel
theorem dX12_rowsBy_56 : decode cX12_rowsBy 56 = .ok (.getfield 7, 3) := by decide +kernel
theorem dX12_rowsBy_59 : decode cX12_rowsBy 59 = .ok (.iconst 2, 1) := by decide +kernel
theorem dX12_rowsBy_60 : decode cX12_rowsBy 60 = .ok (.iaload, 1) := by decide +kernel
theorem dX12_rowsBy_61 : decode cX12_rowsBy 61 = .ok (.if_icmp .ge 123, 3) := by decide +kernel
theorem dX12_rowsBy_64 : decode cX12_rowsBy 64 = .ok (.iconst 0, 1) := by decide +kernel
theorem dX12_rowsBy_65 : decode cX12_rowsBy 65 = .ok (.istore 4, 2) := by decide +kernel
theorem dX12_rowsBy_67 : decode cX12_rowsBy 67 = .ok (.iload 4, 2) := by decide +kernel
theorem dX12_rowsBy_69 : decode cX12_rowsBy 69 = .ok (.bipush 30, 2) := by decide +kernel
theorem dX12_rowsBy_71 : decode cX12_rowsBy 71 = .ok (.if_icmp .gt 107, 3) := by decide +kernel
theorem dX12_rowsBy_74 : decode cX12_rowsBy 74 = .ok (.iconst (-1), 1) := by decide +kernel
theorem dX12_rowsBy_75 : decode cX12_rowsBy 75 = .ok (.istore 5, 2) := by decide +kernel
theorem dX12_rowsBy_77 : decode cX12_rowsBy 77 = .ok (.iload 5, 2) := by decide +kernel
theorem dX12_rowsBy_79 : decode cX12_rowsBy 79 = .ok (.iconst 2, 1) := by decide +kernel
theorem dX12_rowsBy_80 : decode cX12_rowsBy 80 = .ok (.if_icmp .ge 92, 3) := by decide +kernel
theorem dX12_rowsBy_83 : decode cX12_rowsBy 83 = .ok (.iload 4, 2) := by decide +kernel
theorem dX12_rowsBy_85 : decode cX12_rowsBy 85 = .ok (.iload 5, 2) := by decide +kernel
theorem dX12_rowsBy_87 : decode cX12_rowsBy 87 = .ok (.iadd, 1) := by decide +kernel
theorem dX12_rowsBy_88 : decode cX12_rowsBy 88 = .ok (.iconst 0, 1) := by decide +kernel
theorem dX12_rowsBy_89 : decode cX12_rowsBy 89 = .ok (.bipush 30, 2) := by decide +kernel
theorem dX12_rowsBy_91 : decode cX12_rowsBy 91 = .ok (.invokestatic 63, 3) := by decide +kernel
theorem dX12_rowsBy_94 : decode cX12_rowsBy 94 = .ok (.ifCond .eq 18, 3) := by decide +kernel
theorem dX12_rowsBy_97 : decode cX12_rowsBy 97 = .ok (.iload_n 3, 1) := by decide +kernel
theorem dX12_rowsBy_98 : decode cX12_rowsBy 98 = .ok (.iload_n 1, 1) := by decide +kernel
theorem dX12_rowsBy_99 : decode cX12_rowsBy 99 = .ok (.if_icmp .ne 9, 3) := by decide +kernel
theorem dX12_rowsBy_102 : decode cX12_rowsBy 102 = .ok (.iload 5, 2) := by decide +kernel
theorem dX12_rowsBy_104 : decode cX12_rowsBy 104 = .ok (.iload_n 2, 1) := by decide +kernel
theorem dX12_rowsBy_105 : decode cX12_rowsBy 105 = .ok (.if_icmp .ne 7, 3) := by decide +kernel
theorem dX12_rowsBy_108 : decode cX12_rowsBy 108 = .ok (.iconst 1, 1) := by decide +kernel
theorem dX12_rowsBy_109 : decode cX12_rowsBy 109 = .ok (.goto 4, 3) := by decide +kernel
theorem dX12_rowsBy_112 : decode cX12_rowsBy 112 = .ok (.iconst 0, 1) := by decide +kernel
theorem dX12_rowsBy_113 : decode cX12_rowsBy 113 = .ok (.istore 6, 2) := by decide +kernel
theorem dX12_rowsBy_115 : decode cX12_rowsBy 115 = .ok (.iload 6, 2) := by decide +kernel
theorem dX12_rowsBy_117 : decode cX12_rowsBy 117 = .ok (.ifCond .eq 49, 3) := by decide +kernel
theorem dX12_rowsBy_120 : decode cX12_rowsBy 120 = .ok (.aload_n 0, 1) := by decide +kernel
theorem dX12_rowsBy_121 : decode cX12_rowsBy 121 = .ok (.iload_n 3, 1) := by decide +kernel
theorem dX12_rowsBy_122 : decode cX12_rowsBy 122 = .ok (.iload 4, 2) := by decide +kernel
theorem dX12_rowsBy_124 : decode cX12_rowsBy 124 = .ok (.iload 5, 2) := by decide +kernel
theorem dX12_rowsBy_126 : decode cX12_rowsBy 126 = .ok (.iadd, 1) := by decide +kernel
theorem dX12_rowsBy_127 : decode cX12_rowsBy 127 = .ok (.invokevirtual 189, 3) := by decide +kernel
theorem dX12_rowsBy_130 : decode cX12_rowsBy 130 = .ok (.ifCond .eq 36, 3) := by decide +kernel
theorem dX12_rowsBy_133 : decode cX12_rowsBy 133 = .ok (.aload_n 0, 1) := by decide +kernel
theorem dX12_rowsBy_134 : decode cX12_rowsBy 134 = .ok (.getfield 39, 3) := by decide +kernel
theorem dX12_rowsBy_137 : decode cX12_rowsBy 137 = .ok (.bipush 31, 2) := by decide +kernel
theorem dX12_rowsBy_139 : decode cX12_rowsBy 139 = .ok (.iload_n 3, 1) := by decide +kernel
theorem dX12_rowsBy_140 : decode cX12_rowsBy 140 = .ok (.imul, 1) := by decide +kernel
theorem dX12_rowsBy_141 : decode cX12_rowsBy 141 = .ok (.bipush 31, 2) := by decide +kernel
theorem dX12_rowsBy_143 : decode cX12_rowsBy 143 = .ok (.iadd, 1) := by decide +kernel
theorem dX12_rowsBy_144 : decode cX12_rowsBy 144 = .ok (.iload 4, 2) := by decide +kernel
theorem dX12_rowsBy_146 : decode cX12_rowsBy 146 = .ok (.iadd, 1) := by decide +kernel
theorem dX12_rowsBy_147 : decode cX12_rowsBy 147 = .ok (.iload 5, 2) := by decide +kernel
theorem dX12_rowsBy_149 : decode cX12_rowsBy 149 = .ok (.iadd, 1) := by decide +kernel
theorem dX12_rowsBy_150 : decode cX12_rowsBy 150 = .ok (.dup2, 1) := by decide +kernel
theorem dX12_rowsBy_151 : decode cX12_rowsBy 151 = .ok (.iaload, 1) := by decide +kernel
theorem dX12_rowsBy_152 : decode cX12_rowsBy 152 = .ok (.aload_n 0, 1) := by decide +kernel
theorem dX12_rowsBy_153 : decode cX12_rowsBy 153 = .ok (.getfield 39, 3) := by decide +kernel
theorem dX12_rowsBy_156 : decode cX12_rowsBy 156 = .ok (.bipush 31, 2) := by decide +kernel
theorem dX12_rowsBy_158 : decode cX12_rowsBy 158 = .ok (.iload_n 3, 1) := by decide +kernel
theorem dX12_rowsBy_159 : decode cX12_rowsBy 159 = .ok (.imul, 1) := by decide +kernel
theorem dX12_rowsBy_160 : decode cX12_rowsBy 160 = .ok (.iload 4, 2) := by decide +kernel
theorem dX12_rowsBy_162 : decode cX12_rowsBy 162 = .ok (.iadd, 1) := by decide +kernel
theorem dX12_rowsBy_163 : decode cX12_rowsBy 163 = .ok (.iaload, 1) := by decide +kernel
theorem dX12_rowsBy_164 : decode cX12_rowsBy 164 = .ok (.iadd, 1) := by decide +kernel
theorem dX12_rowsBy_165 : decode cX12_rowsBy 165 = .ok (.iastore, 1) := by decide +kernel
theorem dX12_rowsBy_166 : decode cX12_rowsBy 166 = .ok (.iinc 5 1, 3) := by decide +kernel
theorem dX12_rowsBy_169 : decode cX12_rowsBy 169 = .ok (.goto (-92), 3) := by decide +kernel
theorem dX12_rowsBy_172 : decode cX12_rowsBy 172 = .ok (.iinc 4 1, 3) := by decide +kernel
theorem dX12_rowsBy_175 : decode cX12_rowsBy 175 = .ok (.goto (-108), 3) := by decide +kernel
theorem dX12_rowsBy_178 : decode cX12_rowsBy 178 = .ok (.iinc 3 1, 3) := by decide +kernel
theorem dX12_rowsBy_181 : decode cX12_rowsBy 181 = .ok (.goto (-127), 3) := by decide +kernel
theorem dX12_rowsBy_184 : decode cX12_rowsBy 184 = .ok (.iconst 0, 1) := by decide +kernel
theorem dX12_rowsBy_185 : decode cX12_rowsBy 185 = .ok (.istore_n 3, 1) := by decide +kernel
theorem dX12_rowsBy_186 : decode cX12_rowsBy 186 = .ok (.iconst 0, 1) := by decide +kernel
theorem dX12_rowsBy_187 : decode cX12_rowsBy 187 = .ok (.istore 4, 2) := by decide +kernel
theorem dX12_rowsBy_189 : decode cX12_rowsBy 189 = .ok (.iload 4, 2) := by decide +kernel
theorem dX12_rowsBy_191 : decode cX12_rowsBy 191 = .ok (.bipush 30, 2) := by decide +kernel
theorem dX12_rowsBy_193 : decode cX12_rowsBy 193 = .ok (.if_icmp .gt 29, 3) := by decide +kernel
theorem dX12_rowsBy_196 : decode cX12_rowsBy 196 = .ok (.iload_n 3, 1) := by decide +kernel
theorem dX12_rowsBy_197 : decode cX12_rowsBy 197 = .ok (.aload_n 0, 1) := by decide +kernel
theorem dX12_rowsBy_198 : decode cX12_rowsBy 198 = .ok (.getfield 39, 3) := by decide +kernel
theorem dX12_rowsBy_201 : decode cX12_rowsBy 201 = .ok (.bipush 31, 2) := by decide +kernel
theorem dX12_rowsBy_203 : decode cX12_rowsBy 203 = .ok (.aload_n 0, 1) := by decide +kernel
theorem dX12_rowsBy_204 : decode cX12_rowsBy 204 = .ok (.getfield 7, 3) := by decide +kernel
theorem dX12_rowsBy_207 : decode cX12_rowsBy 207 = .ok (.iconst 2, 1) := by decide +kernel
theorem dX12_rowsBy_208 : decode cX12_rowsBy 208 = .ok (.iaload, 1) := by decide +kernel
theorem dX12_rowsBy_209 : decode cX12_rowsBy 209 = .ok (.imul, 1) := by decide +kernel
theorem dX12_rowsBy_210 : decode cX12_rowsBy 210 = .ok (.iload 4, 2) := by decide +kernel
theorem dX12_rowsBy_212 : decode cX12_rowsBy 212 = .ok (.iadd, 1) := by decide +kernel
theorem dX12_rowsBy_213 : decode cX12_rowsBy 213 = .ok (.iaload, 1) := by decide +kernel
theorem dX12_rowsBy_214 : decode cX12_rowsBy 214 = .ok (.iadd, 1) := by decide +kernel
theorem dX12_rowsBy_215 : decode cX12_rowsBy 215 = .ok (.istore_n 3, 1) := by decide +kernel
theorem dX12_rowsBy_216 : decode cX12_rowsBy 216 = .ok (.iinc 4 1, 3) := by decide +kernel
theorem dX12_rowsBy_219 : decode cX12_rowsBy 219 = .ok (.goto (-30), 3) := by decide +kernel
theorem dX12_rowsBy_222 : decode cX12_rowsBy 222 = .ok (.iload_n 3, 1) := by decide +kernel
theorem dX12_rowsBy_223 : decode cX12_rowsBy 223 = .ok (.ireturn, 1) := by decide +kernel
set_option maxRecDepth 20000 in
theorem ggX12_done_X12_rowsBy : GoodIn wsX12_done wsX12_rowsBy := goodIn_r _ [5, 6, 7, 8, 9, 10, 4, 11, 12, 13, 14, 15, 16, 17, 18, 19, 20, 21, 22, 23, 24, 25, 26, 27, 28, 29, 30, 31, 32, 33, 34, 35, 36, 37, 38, 39, 40, 41] (by decide +kernel) (by decide +kernel)
set_option maxRecDepth 20000 in
theorem gX12_done_X12_rowsBy : GoodIn wsX12_done (wsV RX12 193 RX12 yX12_rowsBy wsX12_rowsBy) := goodIn_app (goodIn_of _ (by decide +kernel)) ggX12_done_X12_rowsBy
theorem dX12_done_0 : decode cX12_done 0 = .ok (.aload_n 0, 1) := by decide +kernel
theorem dX12_done_1 : decode cX12_done 1 = .ok (.iconst (-1), 1) := by decide +kernel
theorem dX12_done_2 : decode cX12_done 2 = .ok (.iconst 0, 1) := by decide +kernel
theorem dX12_done_3 : decode cX12_done 3 = .ok (.invokevirtual 193, 3) := by decide +kernel
theorem dX12_done_6 : decode cX12_done 6 = .ok (.ireturn, 1) := by decide +kernel
set_option maxRecDepth 20000 in
theorem ggX12_sure_X12_isPasser : GoodIn wsX12_sure wsX12_isPasser := goodIn_r _ [5, 6, 7, 8, 4, 9, 32, 33, 34, 35, 36, 37, 38, 39, 40, 41, 42, 43, 44, 45, 46, 47, 48, 49, 50, 51, 52, 53, 54] (by decide +kernel) (by decide +kernel)
set_option maxRecDepth 20000 in
theorem gX12_sure_X12_isPasser : GoodIn wsX12_sure (wsV RX12 91 RX12 yX12_isPasser wsX12_isPasser) := goodIn_app (goodIn_of _ (by decide +kernel)) ggX12_sure_X12_isPasser
set_option maxRecDepth 20000 in
theorem ggX12_sure_X12_bad : GoodIn wsX12_sure wsX12_bad := goodIn_r _ [13, 14, 32, 33, 34, 35, 36, 37, 38, 39, 40, 41, 42, 43, 44, 45, 46, 47, 48, 49, 50, 51, 52, 53, 54] (by decide +kernel) (by decide +kernel)
set_option maxRecDepth 20000 in
theorem gX12_sure_X12_bad : GoodIn wsX12_sure (wsV RX12 56 RX12 yX12_bad wsX12_bad) := goodIn_app (goodIn_of _ (by decide +kernel)) ggX12_sure_X12_bad
set_option maxRecDepth 20000 in
theorem ggX12_sure_X12_rowsBy : GoodIn wsX12_sure wsX12_rowsBy := goodIn_r _ [18, 19, 6, 20, 21, 22, 4, 23, 24, 25, 26, 27, 7, 8, 9, 32, 33, 34, 35, 36, 37, 38, 39, 40, 41, 42, 43, 44, 45, 46, 47, 48, 49, 50, 51, 52, 53, 54] (by decide +kernel) (by decide +kernel)
set_option maxRecDepth 20000 in
theorem gX12_sure_X12_rowsBy : GoodIn wsX12_sure (wsV RX12 193 RX12 yX12_rowsBy wsX12_rowsBy) := goodIn_app (goodIn_of _ (by decide +kernel)) ggX12_sure_X12_rowsBy
set_option maxRecDepth 20000 in
theorem ggX12_sure_X12_no : GoodIn wsX12_sure wsX12_no := goodIn_r _ [31, 14, 32, 33, 34, 35, 36, 37, 38, 39, 40, 41, 42, 43, 44, 45, 46, 47, 48, 49, 50, 51, 52, 53, 54] (by decide +kernel) (by decide +kernel)
set_option maxRecDepth 20000 in
theorem gX12_sure_X12_no : GoodIn wsX12_sure (wsV RX12 85 RX12 yX12_no wsX12_no) := goodIn_app (goodIn_of _ (by decide +kernel)) ggX12_sure_X12_no
theorem dX12_sure_0 : decode cX12_sure 0 = .ok (.aload_n 0, 1) := by decide +kernel
theorem dX12_sure_1 : decode cX12_sure 1 = .ok (.iload_n 1, 1) := by decide +kernel
theorem dX12_sure_2 : decode cX12_sure 2 = .ok (.invokevirtual 91, 3) := by decide +kernel
theorem dX12_sure_5 : decode cX12_sure 5 = .ok (.ifCond .ne 11, 3) := by decide +kernel
theorem dX12_sure_8 : decode cX12_sure 8 = .ok (.aload_n 0, 1) := by decide +kernel
theorem dX12_sure_9 : decode cX12_sure 9 = .ok (.invokevirtual 56, 3) := by decide +kernel
theorem dX12_sure_12 : decode cX12_sure 12 = .ok (.pop, 1) := by decide +kernel
theorem dX12_sure_13 : decode cX12_sure 13 = .ok (.bipush (-10), 2) := by decide +kernel
theorem dX12_sure_15 : decode cX12_sure 15 = .ok (.ireturn, 1) := by decide +kernel
theorem dX12_sure_16 : decode cX12_sure 16 = .ok (.aload_n 0, 1) := by decide +kernel
theorem dX12_sure_17 : decode cX12_sure 17 = .ok (.iconst (-1), 1) := by decide +kernel
theorem dX12_sure_18 : decode cX12_sure 18 = .ok (.iconst 0, 1) := by decide +kernel
theorem dX12_sure_19 : decode cX12_sure 19 = .ok (.invokevirtual 193, 3) := by decide +kernel
theorem dX12_sure_22 : decode cX12_sure 22 = .ok (.istore_n 2, 1) := by decide +kernel
theorem dX12_sure_23 : decode cX12_sure 23 = .ok (.iload_n 2, 1) := by decide +kernel
theorem dX12_sure_24 : decode cX12_sure 24 = .ok (.ifCond .ne 11, 3) := by decide +kernel
theorem dX12_sure_27 : decode cX12_sure 27 = .ok (.aload_n 0, 1) := by decide +kernel
theorem dX12_sure_28 : decode cX12_sure 28 = .ok (.invokevirtual 85, 3) := by decide +kernel
theorem dX12_sure_31 : decode cX12_sure 31 = .ok (.pop, 1) := by decide +kernel
theorem dX12_sure_32 : decode cX12_sure 32 = .ok (.bipush (-20), 2) := by decide +kernel
theorem dX12_sure_34 : decode cX12_sure 34 = .ok (.ireturn, 1) := by decide +kernel
theorem dX12_sure_35 : decode cX12_sure 35 = .ok (.iconst (-1), 1) := by decide +kernel
theorem dX12_sure_36 : decode cX12_sure 36 = .ok (.istore_n 3, 1) := by decide +kernel
theorem dX12_sure_37 : decode cX12_sure 37 = .ok (.iload_n 3, 1) := by decide +kernel
theorem dX12_sure_38 : decode cX12_sure 38 = .ok (.iconst 2, 1) := by decide +kernel
theorem dX12_sure_39 : decode cX12_sure 39 = .ok (.if_icmp .ge 21, 3) := by decide +kernel
theorem dX12_sure_42 : decode cX12_sure 42 = .ok (.aload_n 0, 1) := by decide +kernel
theorem dX12_sure_43 : decode cX12_sure 43 = .ok (.iload_n 1, 1) := by decide +kernel
theorem dX12_sure_44 : decode cX12_sure 44 = .ok (.iload_n 3, 1) := by decide +kernel
theorem dX12_sure_45 : decode cX12_sure 45 = .ok (.invokevirtual 193, 3) := by decide +kernel
theorem dX12_sure_48 : decode cX12_sure 48 = .ok (.iload_n 2, 1) := by decide +kernel
theorem dX12_sure_49 : decode cX12_sure 49 = .ok (.if_icmp .ne 5, 3) := by decide +kernel
theorem dX12_sure_52 : decode cX12_sure 52 = .ok (.iload_n 3, 1) := by decide +kernel
theorem dX12_sure_53 : decode cX12_sure 53 = .ok (.ireturn, 1) := by decide +kernel
theorem dX12_sure_54 : decode cX12_sure 54 = .ok (.iinc 3 1, 3) := by decide +kernel
theorem dX12_sure_57 : decode cX12_sure 57 = .ok (.goto (-20), 3) := by decide +kernel
theorem dX12_sure_60 : decode cX12_sure 60 = .ok (.bipush (-5), 2) := by decide +kernel
theorem dX12_sure_62 : decode cX12_sure 62 = .ok (.ireturn, 1) := by decide +kernel
set_option maxRecDepth 20000 in
theorem ggX12_goOdds_X12_ofPasser : GoodIn wsX12_goOdds wsX12_ofPasser := goodIn_r _ [7, 8, 9, 10, 11, 12, 13, 14, 15, 16, 17, 18, 19, 20, 21, 22, 23, 24, 25, 26, 27, 28, 29, 30, 31] (by decide +kernel) (by decide +kernel)
set_option maxRecDepth 20000 in
theorem gX12_goOdds_X12_ofPasser : GoodIn wsX12_goOdds (wsV RX12 67 RX12 yX12_ofPasser wsX12_ofPasser) := goodIn_app (goodIn_of _ (by decide +kernel)) ggX12_goOdds_X12_ofPasser
theorem dX12_goOdds_0 : decode cX12_goOdds 0 = .ok (.iconst 0, 1) := by decide +kernel
theorem dX12_goOdds_1 : decode cX12_goOdds 1 = .ok (.istore_n 2, 1) := by decide +kernel
theorem dX12_goOdds_2 : decode cX12_goOdds 2 = .ok (.iload_n 2, 1) := by decide +kernel
theorem dX12_goOdds_3 : decode cX12_goOdds 3 = .ok (.bipush 30, 2) := by decide +kernel
theorem dX12_goOdds_5 : decode cX12_goOdds 5 = .ok (.if_icmp .gt 16, 3) := by decide +kernel
theorem dX12_goOdds_8 : decode cX12_goOdds 8 = .ok (.aload_n 0, 1) := by decide +kernel
theorem dX12_goOdds_9 : decode cX12_goOdds 9 = .ok (.getfield 46, 3) := by decide +kernel
theorem dX12_goOdds_12 : decode cX12_goOdds 12 = .ok (.iload_n 2, 1) := by decide +kernel
theorem dX12_goOdds_13 : decode cX12_goOdds 13 = .ok (.lconst 0, 1) := by decide +kernel
theorem dX12_goOdds_14 : decode cX12_goOdds 14 = .ok (.lastore, 1) := by decide +kernel
theorem dX12_goOdds_15 : decode cX12_goOdds 15 = .ok (.iinc 2 1, 3) := by decide +kernel
theorem dX12_goOdds_18 : decode cX12_goOdds 18 = .ok (.goto (-16), 3) := by decide +kernel
theorem dX12_goOdds_21 : decode cX12_goOdds 21 = .ok (.iconst 0, 1) := by decide +kernel
theorem dX12_goOdds_22 : decode cX12_goOdds 22 = .ok (.istore_n 2, 1) := by decide +kernel
theorem dX12_goOdds_23 : decode cX12_goOdds 23 = .ok (.iload_n 2, 1) := by decide +kernel
theorem dX12_goOdds_24 : decode cX12_goOdds 24 = .ok (.bipush 30, 2) := by decide +kernel
theorem dX12_goOdds_26 : decode cX12_goOdds 26 = .ok (.if_icmp .gt 116, 3) := by decide +kernel
theorem dX12_goOdds_29 : decode cX12_goOdds 29 = .ok (.iload_n 2, 1) := by decide +kernel
theorem dX12_goOdds_30 : decode cX12_goOdds 30 = .ok (.ifCond .le 12, 3) := by decide +kernel
theorem dX12_goOdds_33 : decode cX12_goOdds 33 = .ok (.aload_n 0, 1) := by decide +kernel
theorem dX12_goOdds_34 : decode cX12_goOdds 34 = .ok (.iload_n 1, 1) := by decide +kernel
theorem dX12_goOdds_35 : decode cX12_goOdds 35 = .ok (.iconst 4, 1) := by decide +kernel
theorem dX12_goOdds_36 : decode cX12_goOdds 36 = .ok (.invokevirtual 67, 3) := by decide +kernel
theorem dX12_goOdds_39 : decode cX12_goOdds 39 = .ok (.goto 4, 3) := by decide +kernel
theorem dX12_goOdds_42 : decode cX12_goOdds 42 = .ok (.iconst 0, 1) := by decide +kernel
theorem dX12_goOdds_43 : decode cX12_goOdds 43 = .ok (.istore_n 3, 1) := by decide +kernel
theorem dX12_goOdds_44 : decode cX12_goOdds 44 = .ok (.iload_n 2, 1) := by decide +kernel
theorem dX12_goOdds_45 : decode cX12_goOdds 45 = .ok (.bipush 30, 2) := by decide +kernel
theorem dX12_goOdds_47 : decode cX12_goOdds 47 = .ok (.if_icmp .ge 12, 3) := by decide +kernel
theorem dX12_goOdds_50 : decode cX12_goOdds 50 = .ok (.aload_n 0, 1) := by decide +kernel
theorem dX12_goOdds_51 : decode cX12_goOdds 51 = .ok (.iload_n 1, 1) := by decide +kernel
theorem dX12_goOdds_52 : decode cX12_goOdds 52 = .ok (.iconst 5, 1) := by decide +kernel
theorem dX12_goOdds_53 : decode cX12_goOdds 53 = .ok (.invokevirtual 67, 3) := by decide +kernel
theorem dX12_goOdds_56 : decode cX12_goOdds 56 = .ok (.goto 4, 3) := by decide +kernel
theorem dX12_goOdds_59 : decode cX12_goOdds 59 = .ok (.iconst 0, 1) := by decide +kernel
theorem dX12_goOdds_60 : decode cX12_goOdds 60 = .ok (.istore 4, 2) := by decide +kernel
theorem dX12_goOdds_62 : decode cX12_goOdds 62 = .ok (.aload_n 0, 1) := by decide +kernel
theorem dX12_goOdds_63 : decode cX12_goOdds 63 = .ok (.getfield 46, 3) := by decide +kernel
theorem dX12_goOdds_66 : decode cX12_goOdds 66 = .ok (.iload_n 2, 1) := by decide +kernel
theorem dX12_goOdds_67 : decode cX12_goOdds 67 = .ok (.dup2, 1) := by decide +kernel
theorem dX12_goOdds_68 : decode cX12_goOdds 68 = .ok (.laload, 1) := by decide +kernel
theorem dX12_goOdds_69 : decode cX12_goOdds 69 = .ok (.aload_n 0, 1) := by decide +kernel
theorem dX12_goOdds_70 : decode cX12_goOdds 70 = .ok (.getfield 42, 3) := by decide +kernel
theorem dX12_goOdds_73 : decode cX12_goOdds 73 = .ok (.iload_n 2, 1) := by decide +kernel
theorem dX12_goOdds_74 : decode cX12_goOdds 74 = .ok (.laload, 1) := by decide +kernel
theorem dX12_goOdds_75 : decode cX12_goOdds 75 = .ok (.bipush 10, 2) := by decide +kernel
theorem dX12_goOdds_77 : decode cX12_goOdds 77 = .ok (.iload_n 3, 1) := by decide +kernel
theorem dX12_goOdds_78 : decode cX12_goOdds 78 = .ok (.isub, 1) := by decide +kernel
theorem dX12_goOdds_79 : decode cX12_goOdds 79 = .ok (.iload 4, 2) := by decide +kernel
theorem dX12_goOdds_81 : decode cX12_goOdds 81 = .ok (.isub, 1) := by decide +kernel
theorem dX12_goOdds_82 : decode cX12_goOdds 82 = .ok (.i2l, 1) := by decide +kernel
theorem dX12_goOdds_83 : decode cX12_goOdds 83 = .ok (.lmul, 1) := by decide +kernel
theorem dX12_goOdds_84 : decode cX12_goOdds 84 = .ok (.ladd, 1) := by decide +kernel
theorem dX12_goOdds_85 : decode cX12_goOdds 85 = .ok (.lastore, 1) := by decide +kernel
theorem dX12_goOdds_86 : decode cX12_goOdds 86 = .ok (.iload_n 3, 1) := by decide +kernel
theorem dX12_goOdds_87 : decode cX12_goOdds 87 = .ok (.ifCond .le 23, 3) := by decide +kernel
theorem dX12_goOdds_90 : decode cX12_goOdds 90 = .ok (.aload_n 0, 1) := by decide +kernel
theorem dX12_goOdds_91 : decode cX12_goOdds 91 = .ok (.getfield 46, 3) := by decide +kernel
theorem dX12_goOdds_94 : decode cX12_goOdds 94 = .ok (.iload_n 2, 1) := by decide +kernel
theorem dX12_goOdds_95 : decode cX12_goOdds 95 = .ok (.iconst 1, 1) := by decide +kernel
theorem dX12_goOdds_96 : decode cX12_goOdds 96 = .ok (.isub, 1) := by decide +kernel
theorem dX12_goOdds_97 : decode cX12_goOdds 97 = .ok (.dup2, 1) := by decide +kernel
theorem dX12_goOdds_98 : decode cX12_goOdds 98 = .ok (.laload, 1) := by decide +kernel
theorem dX12_goOdds_99 : decode cX12_goOdds 99 = .ok (.aload_n 0, 1) := by decide +kernel
theorem dX12_goOdds_100 : decode cX12_goOdds 100 = .ok (.getfield 42, 3) := by decide +kernel
theorem dX12_goOdds_103 : decode cX12_goOdds 103 = .ok (.iload_n 2, 1) := by decide +kernel
theorem dX12_goOdds_104 : decode cX12_goOdds 104 = .ok (.laload, 1) := by decide +kernel
theorem dX12_goOdds_105 : decode cX12_goOdds 105 = .ok (.iload_n 3, 1) := by decide +kernel
theorem dX12_goOdds_106 : decode cX12_goOdds 106 = .ok (.i2l, 1) := by decide +kernel
theorem dX12_goOdds_107 : decode cX12_goOdds 107 = .ok (.lmul, 1) := by decide +kernel
theorem dX12_goOdds_108 : decode cX12_goOdds 108 = .ok (.ladd, 1) := by decide +kernel
theorem dX12_goOdds_109 : decode cX12_goOdds 109 = .ok (.lastore, 1) := by decide +kernel
theorem dX12_goOdds_110 : decode cX12_goOdds 110 = .ok (.iload 4, 2) := by decide +kernel
theorem dX12_goOdds_112 : decode cX12_goOdds 112 = .ok (.ifCond .le 24, 3) := by decide +kernel
theorem dX12_goOdds_115 : decode cX12_goOdds 115 = .ok (.aload_n 0, 1) := by decide +kernel
theorem dX12_goOdds_116 : decode cX12_goOdds 116 = .ok (.getfield 46, 3) := by decide +kernel
theorem dX12_goOdds_119 : decode cX12_goOdds 119 = .ok (.iload_n 2, 1) := by decide +kernel
theorem dX12_goOdds_120 : decode cX12_goOdds 120 = .ok (.iconst 1, 1) := by decide +kernel
theorem dX12_goOdds_121 : decode cX12_goOdds 121 = .ok (.iadd, 1) := by decide +kernel
theorem dX12_goOdds_122 : decode cX12_goOdds 122 = .ok (.dup2, 1) := by decide +kernel
theorem dX12_goOdds_123 : decode cX12_goOdds 123 = .ok (.laload, 1) := by decide +kernel
theorem dX12_goOdds_124 : decode cX12_goOdds 124 = .ok (.aload_n 0, 1) := by decide +kernel
theorem dX12_goOdds_125 : decode cX12_goOdds 125 = .ok (.getfield 42, 3) := by decide +kernel
theorem dX12_goOdds_128 : decode cX12_goOdds 128 = .ok (.iload_n 2, 1) := by decide +kernel
theorem dX12_goOdds_129 : decode cX12_goOdds 129 = .ok (.laload, 1) := by decide +kernel
theorem dX12_goOdds_130 : decode cX12_goOdds 130 = .ok (.iload 4, 2) := by decide +kernel
theorem dX12_goOdds_132 : decode cX12_goOdds 132 = .ok (.i2l, 1) := by decide +kernel
theorem dX12_goOdds_133 : decode cX12_goOdds 133 = .ok (.lmul, 1) := by decide +kernel
theorem dX12_goOdds_134 : decode cX12_goOdds 134 = .ok (.ladd, 1) := by decide +kernel
theorem dX12_goOdds_135 : decode cX12_goOdds 135 = .ok (.lastore, 1) := by decide +kernel
theorem dX12_goOdds_136 : decode cX12_goOdds 136 = .ok (.iinc 2 1, 3) := by decide +kernel
theorem dX12_goOdds_139 : decode cX12_goOdds 139 = .ok (.goto (-116), 3) := by decide +kernel
theorem dX12_goOdds_142 : decode cX12_goOdds 142 = .ok (.iconst 0, 1) := by decide +kernel
theorem dX12_goOdds_143 : decode cX12_goOdds 143 = .ok (.istore_n 2, 1) := by decide +kernel
theorem dX12_goOdds_144 : decode cX12_goOdds 144 = .ok (.iload_n 2, 1) := by decide +kernel
theorem dX12_goOdds_145 : decode cX12_goOdds 145 = .ok (.bipush 30, 2) := by decide +kernel
theorem dX12_goOdds_147 : decode cX12_goOdds 147 = .ok (.if_icmp .gt 21, 3) := by decide +kernel
theorem dX12_goOdds_150 : decode cX12_goOdds 150 = .ok (.aload_n 0, 1) := by decide +kernel
theorem dX12_goOdds_151 : decode cX12_goOdds 151 = .ok (.getfield 42, 3) := by decide +kernel
theorem dX12_goOdds_154 : decode cX12_goOdds 154 = .ok (.iload_n 2, 1) := by decide +kernel
theorem dX12_goOdds_155 : decode cX12_goOdds 155 = .ok (.aload_n 0, 1) := by decide +kernel
theorem dX12_goOdds_156 : decode cX12_goOdds 156 = .ok (.getfield 46, 3) := by decide +kernel
theorem dX12_goOdds_159 : decode cX12_goOdds 159 = .ok (.iload_n 2, 1) := by decide +kernel
theorem dX12_goOdds_160 : decode cX12_goOdds 160 = .ok (.laload, 1) := by decide +kernel
theorem dX12_goOdds_161 : decode cX12_goOdds 161 = .ok (.lastore, 1) := by decide +kernel
theorem dX12_goOdds_162 : decode cX12_goOdds 162 = .ok (.iinc 2 1, 3) := by decide +kernel
theorem dX12_goOdds_165 : decode cX12_goOdds 165 = .ok (.goto (-21), 3) := by decide +kernel
theorem dX12_goOdds_168 : decode cX12_goOdds 168 = .ok (.return_, 1) := by decide +kernel
theorem dX12_begin_0 : decode cX12_begin 0 = .ok (.iconst 0, 1) := by decide +kernel
theorem dX12_begin_1 : decode cX12_begin 1 = .ok (.istore_n 1, 1) := by decide +kernel
theorem dX12_begin_2 : decode cX12_begin 2 = .ok (.iload_n 1, 1) := by decide +kernel
theorem dX12_begin_3 : decode cX12_begin 3 = .ok (.bipush 30, 2) := by decide +kernel
theorem dX12_begin_5 : decode cX12_begin 5 = .ok (.if_icmp .gt 30, 3) := by decide +kernel
theorem dX12_begin_8 : decode cX12_begin 8 = .ok (.aload_n 0, 1) := by decide +kernel
theorem dX12_begin_9 : decode cX12_begin 9 = .ok (.getfield 42, 3) := by decide +kernel
theorem dX12_begin_12 : decode cX12_begin 12 = .ok (.iload_n 1, 1) := by decide +kernel
theorem dX12_begin_13 : decode cX12_begin 13 = .ok (.iload_n 1, 1) := by decide +kernel
theorem dX12_begin_14 : decode cX12_begin 14 = .ok (.aload_n 0, 1) := by decide +kernel
theorem dX12_begin_15 : decode cX12_begin 15 = .ok (.getfield 7, 3) := by decide +kernel
theorem dX12_begin_18 : decode cX12_begin 18 = .ok (.iconst 0, 1) := by decide +kernel
theorem dX12_begin_19 : decode cX12_begin 19 = .ok (.iaload, 1) := by decide +kernel
theorem dX12_begin_20 : decode cX12_begin 20 = .ok (.if_icmp .ne 7, 3) := by decide +kernel
theorem dX12_begin_23 : decode cX12_begin 23 = .ok (.lconst 1, 1) := by decide +kernel
theorem dX12_begin_24 : decode cX12_begin 24 = .ok (.goto 4, 3) := by decide +kernel
theorem dX12_begin_27 : decode cX12_begin 27 = .ok (.lconst 0, 1) := by decide +kernel
theorem dX12_begin_28 : decode cX12_begin 28 = .ok (.lastore, 1) := by decide +kernel
theorem dX12_begin_29 : decode cX12_begin 29 = .ok (.iinc 1 1, 3) := by decide +kernel
theorem dX12_begin_32 : decode cX12_begin 32 = .ok (.goto (-30), 3) := by decide +kernel
theorem dX12_begin_35 : decode cX12_begin 35 = .ok (.return_, 1) := by decide +kernel
theorem dX12_waysTo_0 : decode cX12_waysTo 0 = .ok (.lconst 0, 1) := by decide +kernel
theorem dX12_waysTo_1 : decode cX12_waysTo 1 = .ok (.lstore_n 2, 1) := by decide +kernel
theorem dX12_waysTo_2 : decode cX12_waysTo 2 = .ok (.iconst 0, 1) := by decide +kernel
theorem dX12_waysTo_3 : decode cX12_waysTo 3 = .ok (.istore 4, 2) := by decide +kernel
theorem dX12_waysTo_5 : decode cX12_waysTo 5 = .ok (.iload 4, 2) := by decide +kernel
theorem dX12_waysTo_7 : decode cX12_waysTo 7 = .ok (.iload_n 1, 1) := by decide +kernel
theorem dX12_waysTo_8 : decode cX12_waysTo 8 = .ok (.if_icmp .gt 19, 3) := by decide +kernel
theorem dX12_waysTo_11 : decode cX12_waysTo 11 = .ok (.lload_n 2, 1) := by decide +kernel
theorem dX12_waysTo_12 : decode cX12_waysTo 12 = .ok (.aload_n 0, 1) := by decide +kernel
theorem dX12_waysTo_13 : decode cX12_waysTo 13 = .ok (.getfield 42, 3) := by decide +kernel
theorem dX12_waysTo_16 : decode cX12_waysTo 16 = .ok (.iload 4, 2) := by decide +kernel
theorem dX12_waysTo_18 : decode cX12_waysTo 18 = .ok (.laload, 1) := by decide +kernel
theorem dX12_waysTo_19 : decode cX12_waysTo 19 = .ok (.ladd, 1) := by decide +kernel
theorem dX12_waysTo_20 : decode cX12_waysTo 20 = .ok (.lstore_n 2, 1) := by decide +kernel
theorem dX12_waysTo_21 : decode cX12_waysTo 21 = .ok (.iinc 4 1, 3) := by decide +kernel
theorem dX12_waysTo_24 : decode cX12_waysTo 24 = .ok (.goto (-19), 3) := by decide +kernel
theorem dX12_waysTo_27 : decode cX12_waysTo 27 = .ok (.lload_n 2, 1) := by decide +kernel
theorem dX12_waysTo_28 : decode cX12_waysTo 28 = .ok (.lreturn, 1) := by decide +kernel
theorem dX12_tell_0 : decode cX12_tell 0 = .ok (.lload_n 1, 1) := by decide +kernel
theorem dX12_tell_1 : decode cX12_tell 1 = .ok (.lstore 5, 2) := by decide +kernel
theorem dX12_tell_3 : decode cX12_tell 3 = .ok (.lload_n 3, 1) := by decide +kernel
theorem dX12_tell_4 : decode cX12_tell 4 = .ok (.lstore 7, 2) := by decide +kernel
theorem dX12_tell_6 : decode cX12_tell 6 = .ok (.lload 7, 2) := by decide +kernel
theorem dX12_tell_8 : decode cX12_tell 8 = .ok (.lconst 0, 1) := by decide +kernel
theorem dX12_tell_9 : decode cX12_tell 9 = .ok (.lcmp, 1) := by decide +kernel
theorem dX12_tell_10 : decode cX12_tell 10 = .ok (.ifCond .eq 21, 3) := by decide +kernel
theorem dX12_tell_13 : decode cX12_tell 13 = .ok (.lload 5, 2) := by decide +kernel
theorem dX12_tell_15 : decode cX12_tell 15 = .ok (.lload 7, 2) := by decide +kernel
theorem dX12_tell_17 : decode cX12_tell 17 = .ok (.lrem, 1) := by decide +kernel
theorem dX12_tell_18 : decode cX12_tell 18 = .ok (.lstore 9, 2) := by decide +kernel
theorem dX12_tell_20 : decode cX12_tell 20 = .ok (.lload 7, 2) := by decide +kernel
theorem dX12_tell_22 : decode cX12_tell 22 = .ok (.lstore 5, 2) := by decide +kernel
theorem dX12_tell_24 : decode cX12_tell 24 = .ok (.lload 9, 2) := by decide +kernel
theorem dX12_tell_26 : decode cX12_tell 26 = .ok (.lstore 7, 2) := by decide +kernel
theorem dX12_tell_28 : decode cX12_tell 28 = .ok (.goto (-22), 3) := by decide +kernel
theorem dX12_tell_31 : decode cX12_tell 31 = .ok (.aload_n 0, 1) := by decide +kernel
theorem dX12_tell_32 : decode cX12_tell 32 = .ok (.lload_n 1, 1) := by decide +kernel
theorem dX12_tell_33 : decode cX12_tell 33 = .ok (.lload 5, 2) := by decide +kernel
theorem dX12_tell_35 : decode cX12_tell 35 = .ok (.ldiv, 1) := by decide +kernel
theorem dX12_tell_36 : decode cX12_tell 36 = .ok (.putfield 196, 3) := by decide +kernel
theorem dX12_tell_39 : decode cX12_tell 39 = .ok (.aload_n 0, 1) := by decide +kernel
theorem dX12_tell_40 : decode cX12_tell 40 = .ok (.lload_n 3, 1) := by decide +kernel
theorem dX12_tell_41 : decode cX12_tell 41 = .ok (.lload 5, 2) := by decide +kernel
theorem dX12_tell_43 : decode cX12_tell 43 = .ok (.ldiv, 1) := by decide +kernel
theorem dX12_tell_44 : decode cX12_tell 44 = .ok (.putfield 52, 3) := by decide +kernel
theorem dX12_tell_47 : decode cX12_tell 47 = .ok (.iconst 1, 1) := by decide +kernel
theorem dX12_tell_48 : decode cX12_tell 48 = .ok (.ireturn, 1) := by decide +kernel
set_option maxRecDepth 20000 in
theorem ggX12_chance_X12_in : GoodIn wsX12_chance wsX12_in := goodIn_r _ [6] (by decide +kernel) (by decide +kernel)
set_option maxRecDepth 20000 in
theorem gX12_chance_X12_in : GoodIn wsX12_chance (va_wsS RX12 63 yX12_in wsX12_in) := goodIn_app (goodIn_of _ (by decide +kernel)) ggX12_chance_X12_in
set_option maxRecDepth 20000 in
theorem ggX12_chance_X12_bad : GoodIn wsX12_chance wsX12_bad := goodIn_r _ [10, 11, 36, 37, 38, 39, 40, 41, 42, 43, 44, 45, 46, 47, 48, 49, 50, 51, 52, 53, 54, 55, 56, 57, 58] (by decide +kernel) (by decide +kernel)
set_option maxRecDepth 20000 in
theorem gX12_chance_X12_bad : GoodIn wsX12_chance (wsV RX12 56 RX12 yX12_bad wsX12_bad) := goodIn_app (goodIn_of _ (by decide +kernel)) ggX12_chance_X12_bad
set_option maxRecDepth 20000 in
theorem ggX12_chance_X12_begin : GoodIn wsX12_chance wsX12_begin := goodIn_r _ [15, 16, 1, 36, 37, 38, 39, 40, 41, 42, 43, 44, 45, 46, 47, 48, 49, 50, 51, 52, 53, 54, 55, 56, 57, 58] (by decide +kernel) (by decide +kernel)
set_option maxRecDepth 20000 in
theorem gX12_chance_X12_begin : GoodIn wsX12_chance (wsV RX12 199 RX12 yX12_begin wsX12_begin) := goodIn_app (goodIn_of _ (by decide +kernel)) ggX12_chance_X12_begin
set_option maxRecDepth 20000 in
theorem ggX12_chance_X12_goOdds : GoodIn wsX12_chance wsX12_goOdds := goodIn_r _ [20, 21, 16, 22, 23, 24, 5, 25, 1, 36, 37, 38, 39, 40, 41, 42, 43, 44, 45, 46, 47, 48, 49, 50, 51, 52, 53, 54, 55, 56, 57, 58] (by decide +kernel) (by decide +kernel)
set_option maxRecDepth 20000 in
theorem gX12_chance_X12_goOdds : GoodIn wsX12_chance (wsV RX12 202 RX12 yX12_goOdds wsX12_goOdds) := goodIn_app (goodIn_of _ (by decide +kernel)) ggX12_chance_X12_goOdds
set_option maxRecDepth 20000 in
theorem ggX12_chance_X12_waysTo : GoodIn wsX12_chance wsX12_waysTo := goodIn_r _ [29, 16, 36, 37, 38, 39, 40, 41, 42, 43, 44, 45, 46, 47, 48, 49, 50, 51, 52, 53, 54, 55, 56, 57, 58] (by decide +kernel) (by decide +kernel)
set_option maxRecDepth 20000 in
theorem gX12_chance_X12_waysTo : GoodIn wsX12_chance (wsV RX12 208 RX12 yX12_waysTo wsX12_waysTo) := goodIn_app (goodIn_of _ (by decide +kernel)) ggX12_chance_X12_waysTo
set_option maxRecDepth 20000 in
theorem ggX12_chance_X12_tell : GoodIn wsX12_chance wsX12_tell := goodIn_r _ [33, 34, 35, 36, 37, 38, 39, 40, 41, 42, 43, 44, 45, 46, 47, 48, 49, 50, 51, 52, 53, 54, 55, 56, 57, 58] (by decide +kernel) (by decide +kernel)
set_option maxRecDepth 20000 in
theorem gX12_chance_X12_tell : GoodIn wsX12_chance (wsV RX12 212 RX12 yX12_tell wsX12_tell) := goodIn_app (goodIn_of _ (by decide +kernel)) ggX12_chance_X12_tell
theorem dX12_chance_0 : decode cX12_chance 0 = .ok (.iload_n 1, 1) := by decide +kernel
theorem dX12_chance_1 : decode cX12_chance 1 = .ok (.iconst 0, 1) := by decide +kernel
theorem dX12_chance_2 : decode cX12_chance 2 = .ok (.bipush 30, 2) := by decide +kernel
theorem dX12_chance_4 : decode cX12_chance 4 = .ok (.invokestatic 63, 3) := by decide +kernel
theorem dX12_chance_7 : decode cX12_chance 7 = .ok (.ifCond .ne 8, 3) := by decide +kernel
theorem dX12_chance_10 : decode cX12_chance 10 = .ok (.aload_n 0, 1) := by decide +kernel
theorem dX12_chance_11 : decode cX12_chance 11 = .ok (.invokevirtual 56, 3) := by decide +kernel
theorem dX12_chance_14 : decode cX12_chance 14 = .ok (.ireturn, 1) := by decide +kernel
theorem dX12_chance_15 : decode cX12_chance 15 = .ok (.aload_n 0, 1) := by decide +kernel
theorem dX12_chance_16 : decode cX12_chance 16 = .ok (.invokevirtual 199, 3) := by decide +kernel
theorem dX12_chance_19 : decode cX12_chance 19 = .ok (.lconst 1, 1) := by decide +kernel
theorem dX12_chance_20 : decode cX12_chance 20 = .ok (.lstore_n 2, 1) := by decide +kernel
theorem dX12_chance_21 : decode cX12_chance 21 = .ok (.iconst 0, 1) := by decide +kernel
theorem dX12_chance_22 : decode cX12_chance 22 = .ok (.istore 4, 2) := by decide +kernel
theorem dX12_chance_24 : decode cX12_chance 24 = .ok (.iload 4, 2) := by decide +kernel
theorem dX12_chance_26 : decode cX12_chance 26 = .ok (.aload_n 0, 1) := by decide +kernel
theorem dX12_chance_27 : decode cX12_chance 27 = .ok (.getfield 7, 3) := by decide +kernel
theorem dX12_chance_30 : decode cX12_chance 30 = .ok (.iconst 2, 1) := by decide +kernel
theorem dX12_chance_31 : decode cX12_chance 31 = .ok (.iaload, 1) := by decide +kernel
theorem dX12_chance_32 : decode cX12_chance 32 = .ok (.if_icmp .ge 21, 3) := by decide +kernel
theorem dX12_chance_35 : decode cX12_chance 35 = .ok (.aload_n 0, 1) := by decide +kernel
theorem dX12_chance_36 : decode cX12_chance 36 = .ok (.iload 4, 2) := by decide +kernel
theorem dX12_chance_38 : decode cX12_chance 38 = .ok (.invokevirtual 202, 3) := by decide +kernel
theorem dX12_chance_41 : decode cX12_chance 41 = .ok (.lload_n 2, 1) := by decide +kernel
theorem dX12_chance_42 : decode cX12_chance 42 = .ok (.ldc2_w 206, 3) := by decide +kernel
theorem dX12_chance_45 : decode cX12_chance 45 = .ok (.lmul, 1) := by decide +kernel
theorem dX12_chance_46 : decode cX12_chance 46 = .ok (.lstore_n 2, 1) := by decide +kernel
theorem dX12_chance_47 : decode cX12_chance 47 = .ok (.iinc 4 1, 3) := by decide +kernel
theorem dX12_chance_50 : decode cX12_chance 50 = .ok (.goto (-26), 3) := by decide +kernel
theorem dX12_chance_53 : decode cX12_chance 53 = .ok (.aload_n 0, 1) := by decide +kernel
theorem dX12_chance_54 : decode cX12_chance 54 = .ok (.aload_n 0, 1) := by decide +kernel
theorem dX12_chance_55 : decode cX12_chance 55 = .ok (.iload_n 1, 1) := by decide +kernel
theorem dX12_chance_56 : decode cX12_chance 56 = .ok (.invokevirtual 208, 3) := by decide +kernel
theorem dX12_chance_59 : decode cX12_chance 59 = .ok (.lload_n 2, 1) := by decide +kernel
theorem dX12_chance_60 : decode cX12_chance 60 = .ok (.invokevirtual 212, 3) := by decide +kernel
theorem dX12_chance_63 : decode cX12_chance 63 = .ok (.ireturn, 1) := by decide +kernel
set_option maxRecDepth 20000 in
theorem ggX12_free_X12_in : GoodIn wsX12_free wsX12_in := goodIn_r _ [7] (by decide +kernel) (by decide +kernel)
set_option maxRecDepth 20000 in
theorem gX12_free_X12_in : GoodIn wsX12_free (va_wsS RX12 63 yX12_in wsX12_in) := goodIn_app (goodIn_of _ (by decide +kernel)) ggX12_free_X12_in
set_option maxRecDepth 20000 in
theorem ggX12_free_X12_bad : GoodIn wsX12_free wsX12_bad := goodIn_r _ [11, 12, 36, 37, 38, 39, 40, 41, 42, 43, 44, 45, 46, 47, 48, 49, 50, 51, 52, 53, 54, 55, 56, 57, 58] (by decide +kernel) (by decide +kernel)
set_option maxRecDepth 20000 in
theorem gX12_free_X12_bad : GoodIn wsX12_free (wsV RX12 56 RX12 yX12_bad wsX12_bad) := goodIn_app (goodIn_of _ (by decide +kernel)) ggX12_free_X12_bad
set_option maxRecDepth 20000 in
theorem ggX12_free_X12_begin : GoodIn wsX12_free wsX12_begin := goodIn_r _ [16, 3, 1, 36, 37, 38, 39, 40, 41, 42, 43, 44, 45, 46, 47, 48, 49, 50, 51, 52, 53, 54, 55, 56, 57, 58] (by decide +kernel) (by decide +kernel)
set_option maxRecDepth 20000 in
theorem gX12_free_X12_begin : GoodIn wsX12_free (wsV RX12 199 RX12 yX12_begin wsX12_begin) := goodIn_app (goodIn_of _ (by decide +kernel)) ggX12_free_X12_begin
set_option maxRecDepth 20000 in
theorem ggX12_free_X12_goOdds : GoodIn wsX12_free wsX12_goOdds := goodIn_r _ [20, 21, 3, 22, 23, 24, 6, 25, 1, 36, 37, 38, 39, 40, 41, 42, 43, 44, 45, 46, 47, 48, 49, 50, 51, 52, 53, 54, 55, 56, 57, 58] (by decide +kernel) (by decide +kernel)
set_option maxRecDepth 20000 in
theorem gX12_free_X12_goOdds : GoodIn wsX12_free (wsV RX12 202 RX12 yX12_goOdds wsX12_goOdds) := goodIn_app (goodIn_of _ (by decide +kernel)) ggX12_free_X12_goOdds
set_option maxRecDepth 20000 in
theorem ggX12_free_X12_waysTo : GoodIn wsX12_free wsX12_waysTo := goodIn_r _ [29, 3, 36, 37, 38, 39, 40, 41, 42, 43, 44, 45, 46, 47, 48, 49, 50, 51, 52, 53, 54, 55, 56, 57, 58] (by decide +kernel) (by decide +kernel)
set_option maxRecDepth 20000 in
theorem gX12_free_X12_waysTo : GoodIn wsX12_free (wsV RX12 208 RX12 yX12_waysTo wsX12_waysTo) := goodIn_app (goodIn_of _ (by decide +kernel)) ggX12_free_X12_waysTo
set_option maxRecDepth 20000 in
theorem ggX12_free_X12_tell : GoodIn wsX12_free wsX12_tell := goodIn_r _ [33, 34, 35, 36, 37, 38, 39, 40, 41, 42, 43, 44, 45, 46, 47, 48, 49, 50, 51, 52, 53, 54, 55, 56, 57, 58] (by decide +kernel) (by decide +kernel)
set_option maxRecDepth 20000 in
theorem gX12_free_X12_tell : GoodIn wsX12_free (wsV RX12 212 RX12 yX12_tell wsX12_tell) := goodIn_app (goodIn_of _ (by decide +kernel)) ggX12_free_X12_tell
theorem dX12_free_0 : decode cX12_free 0 = .ok (.iload_n 1, 1) := by decide +kernel
theorem dX12_free_1 : decode cX12_free 1 = .ok (.iconst (-1), 1) := by decide +kernel
theorem dX12_free_2 : decode cX12_free 2 = .ok (.aload_n 0, 1) := by decide +kernel
theorem dX12_free_3 : decode cX12_free 3 = .ok (.getfield 7, 3) := by decide +kernel
theorem dX12_free_6 : decode cX12_free 6 = .ok (.iconst 2, 1) := by decide +kernel
theorem dX12_free_7 : decode cX12_free 7 = .ok (.iaload, 1) := by decide +kernel
theorem dX12_free_8 : decode cX12_free 8 = .ok (.iconst 1, 1) := by decide +kernel
theorem dX12_free_9 : decode cX12_free 9 = .ok (.isub, 1) := by decide +kernel
theorem dX12_free_10 : decode cX12_free 10 = .ok (.invokestatic 63, 3) := by decide +kernel
theorem dX12_free_13 : decode cX12_free 13 = .ok (.ifCond .eq 12, 3) := by decide +kernel
theorem dX12_free_16 : decode cX12_free 16 = .ok (.iload_n 2, 1) := by decide +kernel
theorem dX12_free_17 : decode cX12_free 17 = .ok (.iconst 0, 1) := by decide +kernel
theorem dX12_free_18 : decode cX12_free 18 = .ok (.iconst 1, 1) := by decide +kernel
theorem dX12_free_19 : decode cX12_free 19 = .ok (.invokestatic 63, 3) := by decide +kernel
theorem dX12_free_22 : decode cX12_free 22 = .ok (.ifCond .ne 8, 3) := by decide +kernel
theorem dX12_free_25 : decode cX12_free 25 = .ok (.aload_n 0, 1) := by decide +kernel
theorem dX12_free_26 : decode cX12_free 26 = .ok (.invokevirtual 56, 3) := by decide +kernel
theorem dX12_free_29 : decode cX12_free 29 = .ok (.ireturn, 1) := by decide +kernel
theorem dX12_free_30 : decode cX12_free 30 = .ok (.aload_n 0, 1) := by decide +kernel
theorem dX12_free_31 : decode cX12_free 31 = .ok (.invokevirtual 199, 3) := by decide +kernel
theorem dX12_free_34 : decode cX12_free 34 = .ok (.lconst 1, 1) := by decide +kernel
theorem dX12_free_35 : decode cX12_free 35 = .ok (.lstore_n 3, 1) := by decide +kernel
theorem dX12_free_36 : decode cX12_free 36 = .ok (.lconst 0, 1) := by decide +kernel
theorem dX12_free_37 : decode cX12_free 37 = .ok (.lstore 5, 2) := by decide +kernel
theorem dX12_free_39 : decode cX12_free 39 = .ok (.lconst 0, 1) := by decide +kernel
theorem dX12_free_40 : decode cX12_free 40 = .ok (.lstore 7, 2) := by decide +kernel
theorem dX12_free_42 : decode cX12_free 42 = .ok (.iconst (-1), 1) := by decide +kernel
theorem dX12_free_43 : decode cX12_free 43 = .ok (.istore 9, 2) := by decide +kernel
theorem dX12_free_45 : decode cX12_free 45 = .ok (.iload 9, 2) := by decide +kernel
theorem dX12_free_47 : decode cX12_free 47 = .ok (.iload_n 1, 1) := by decide +kernel
theorem dX12_free_48 : decode cX12_free 48 = .ok (.if_icmp .gt 81, 3) := by decide +kernel
theorem dX12_free_51 : decode cX12_free 51 = .ok (.iload 9, 2) := by decide +kernel
theorem dX12_free_53 : decode cX12_free 53 = .ok (.ifCond .lt 23, 3) := by decide +kernel
theorem dX12_free_56 : decode cX12_free 56 = .ok (.aload_n 0, 1) := by decide +kernel
theorem dX12_free_57 : decode cX12_free 57 = .ok (.iload 9, 2) := by decide +kernel
theorem dX12_free_59 : decode cX12_free 59 = .ok (.invokevirtual 202, 3) := by decide +kernel
theorem dX12_free_62 : decode cX12_free 62 = .ok (.lload_n 3, 1) := by decide +kernel
theorem dX12_free_63 : decode cX12_free 63 = .ok (.ldc2_w 206, 3) := by decide +kernel
theorem dX12_free_66 : decode cX12_free 66 = .ok (.lmul, 1) := by decide +kernel
theorem dX12_free_67 : decode cX12_free 67 = .ok (.lstore_n 3, 1) := by decide +kernel
theorem dX12_free_68 : decode cX12_free 68 = .ok (.lload 5, 2) := by decide +kernel
theorem dX12_free_70 : decode cX12_free 70 = .ok (.ldc2_w 206, 3) := by decide +kernel
theorem dX12_free_73 : decode cX12_free 73 = .ok (.lmul, 1) := by decide +kernel
theorem dX12_free_74 : decode cX12_free 74 = .ok (.lstore 5, 2) := by decide +kernel
theorem dX12_free_76 : decode cX12_free 76 = .ok (.aload_n 0, 1) := by decide +kernel
theorem dX12_free_77 : decode cX12_free 77 = .ok (.aload_n 0, 1) := by decide +kernel
theorem dX12_free_78 : decode cX12_free 78 = .ok (.getfield 7, 3) := by decide +kernel
theorem dX12_free_81 : decode cX12_free 81 = .ok (.iconst 1, 1) := by decide +kernel
theorem dX12_free_82 : decode cX12_free 82 = .ok (.iaload, 1) := by decide +kernel
theorem dX12_free_83 : decode cX12_free 83 = .ok (.invokevirtual 208, 3) := by decide +kernel
theorem dX12_free_86 : decode cX12_free 86 = .ok (.lstore 7, 2) := by decide +kernel
theorem dX12_free_88 : decode cX12_free 88 = .ok (.lload 5, 2) := by decide +kernel
theorem dX12_free_90 : decode cX12_free 90 = .ok (.lload 7, 2) := by decide +kernel
theorem dX12_free_92 : decode cX12_free 92 = .ok (.ladd, 1) := by decide +kernel
theorem dX12_free_93 : decode cX12_free 93 = .ok (.lstore 5, 2) := by decide +kernel
theorem dX12_free_95 : decode cX12_free 95 = .ok (.iconst 0, 1) := by decide +kernel
theorem dX12_free_96 : decode cX12_free 96 = .ok (.istore 10, 2) := by decide +kernel
theorem dX12_free_98 : decode cX12_free 98 = .ok (.iload 10, 2) := by decide +kernel
theorem dX12_free_100 : decode cX12_free 100 = .ok (.aload_n 0, 1) := by decide +kernel
theorem dX12_free_101 : decode cX12_free 101 = .ok (.getfield 7, 3) := by decide +kernel
theorem dX12_free_104 : decode cX12_free 104 = .ok (.iconst 1, 1) := by decide +kernel
theorem dX12_free_105 : decode cX12_free 105 = .ok (.iaload, 1) := by decide +kernel
theorem dX12_free_106 : decode cX12_free 106 = .ok (.if_icmp .gt 17, 3) := by decide +kernel
theorem dX12_free_109 : decode cX12_free 109 = .ok (.aload_n 0, 1) := by decide +kernel
theorem dX12_free_110 : decode cX12_free 110 = .ok (.getfield 42, 3) := by decide +kernel
theorem dX12_free_113 : decode cX12_free 113 = .ok (.iload 10, 2) := by decide +kernel
theorem dX12_free_115 : decode cX12_free 115 = .ok (.lconst 0, 1) := by decide +kernel
theorem dX12_free_116 : decode cX12_free 116 = .ok (.lastore, 1) := by decide +kernel
theorem dX12_free_117 : decode cX12_free 117 = .ok (.iinc 10 1, 3) := by decide +kernel
theorem dX12_free_120 : decode cX12_free 120 = .ok (.goto (-22), 3) := by decide +kernel
theorem dX12_free_123 : decode cX12_free 123 = .ok (.iinc 9 1, 3) := by decide +kernel
theorem dX12_free_126 : decode cX12_free 126 = .ok (.goto (-81), 3) := by decide +kernel
theorem dX12_free_129 : decode cX12_free 129 = .ok (.aload_n 0, 1) := by decide +kernel
theorem dX12_free_130 : decode cX12_free 130 = .ok (.iload_n 2, 1) := by decide +kernel
theorem dX12_free_131 : decode cX12_free 131 = .ok (.ifCond .ne 8, 3) := by decide +kernel
theorem dX12_free_134 : decode cX12_free 134 = .ok (.lload 7, 2) := by decide +kernel
theorem dX12_free_136 : decode cX12_free 136 = .ok (.goto 5, 3) := by decide +kernel
theorem dX12_free_139 : decode cX12_free 139 = .ok (.lload 5, 2) := by decide +kernel
theorem dX12_free_141 : decode cX12_free 141 = .ok (.lload_n 3, 1) := by decide +kernel
theorem dX12_free_142 : decode cX12_free 142 = .ok (.invokevirtual 212, 3) := by decide +kernel
theorem dX12_free_145 : decode cX12_free 145 = .ok (.ireturn, 1) := by decide +kernel
set_option maxRecDepth 20000 in
theorem ggX12_part_X12_in : GoodIn wsX12_part wsX12_in := goodIn_r _ [6] (by decide +kernel) (by decide +kernel)
set_option maxRecDepth 20000 in
theorem gX12_part_X12_in : GoodIn wsX12_part (va_wsS RX12 63 yX12_in wsX12_in) := goodIn_app (goodIn_of _ (by decide +kernel)) ggX12_part_X12_in
set_option maxRecDepth 20000 in
theorem ggX12_part_X12_bad : GoodIn wsX12_part wsX12_bad := goodIn_r _ [10, 11, 12, 13, 14, 15, 16, 17, 18, 19, 20, 21, 22, 23, 24, 25, 26, 27, 28, 29, 30, 31, 32, 33, 34] (by decide +kernel) (by decide +kernel)
set_option maxRecDepth 20000 in
theorem gX12_part_X12_bad : GoodIn wsX12_part (wsV RX12 56 RX12 yX12_bad wsX12_bad) := goodIn_app (goodIn_of _ (by decide +kernel)) ggX12_part_X12_bad
theorem dX12_part_0 : decode cX12_part 0 = .ok (.iload_n 1, 1) := by decide +kernel
theorem dX12_part_1 : decode cX12_part 1 = .ok (.iconst 0, 1) := by decide +kernel
theorem dX12_part_2 : decode cX12_part 2 = .ok (.iconst 1, 1) := by decide +kernel
theorem dX12_part_3 : decode cX12_part 3 = .ok (.invokestatic 63, 3) := by decide +kernel
theorem dX12_part_6 : decode cX12_part 6 = .ok (.ifCond .eq 21, 3) := by decide +kernel
theorem dX12_part_9 : decode cX12_part 9 = .ok (.iload_n 1, 1) := by decide +kernel
theorem dX12_part_10 : decode cX12_part 10 = .ok (.ifCond .ne 10, 3) := by decide +kernel
theorem dX12_part_13 : decode cX12_part 13 = .ok (.aload_n 0, 1) := by decide +kernel
theorem dX12_part_14 : decode cX12_part 14 = .ok (.getfield 196, 3) := by decide +kernel
theorem dX12_part_17 : decode cX12_part 17 = .ok (.goto 15, 3) := by decide +kernel
theorem dX12_part_20 : decode cX12_part 20 = .ok (.aload_n 0, 1) := by decide +kernel
theorem dX12_part_21 : decode cX12_part 21 = .ok (.getfield 52, 3) := by decide +kernel
theorem dX12_part_24 : decode cX12_part 24 = .ok (.goto 8, 3) := by decide +kernel
theorem dX12_part_27 : decode cX12_part 27 = .ok (.aload_n 0, 1) := by decide +kernel
theorem dX12_part_28 : decode cX12_part 28 = .ok (.invokevirtual 56, 3) := by decide +kernel
theorem dX12_part_31 : decode cX12_part 31 = .ok (.i2l, 1) := by decide +kernel
theorem dX12_part_32 : decode cX12_part 32 = .ok (.lreturn, 1) := by decide +kernel
set_option maxRecDepth 20000 in
theorem ggX12_image_X12_in : GoodIn wsX12_image wsX12_in := goodIn_r _ [5] (by decide +kernel) (by decide +kernel)
set_option maxRecDepth 20000 in
theorem gX12_image_X12_in : GoodIn wsX12_image (va_wsS RX12 63 yX12_in wsX12_in) := goodIn_app (goodIn_of _ (by decide +kernel)) ggX12_image_X12_in
set_option maxRecDepth 20000 in
theorem ggX12_image_X12_bad : GoodIn wsX12_image wsX12_bad := goodIn_r _ [9, 10, 16, 17, 18, 19, 20, 21, 22, 23, 24, 25, 26, 27, 28, 29, 30, 31, 32, 33, 34, 35, 36, 37, 38] (by decide +kernel) (by decide +kernel)
set_option maxRecDepth 20000 in
theorem gX12_image_X12_bad : GoodIn wsX12_image (wsV RX12 56 RX12 yX12_bad wsX12_bad) := goodIn_app (goodIn_of _ (by decide +kernel)) ggX12_image_X12_bad
set_option maxRecDepth 20000 in
theorem ggX12_image_X12_copy : GoodIn wsX12_image wsX12_copy := goodIn_r _ [14, 15, 16, 17, 18, 19, 20, 21, 22, 23, 24, 25, 26, 27, 28, 29, 30, 31, 32, 33, 34, 35, 36, 37, 38] (by decide +kernel) (by decide +kernel)
set_option maxRecDepth 20000 in
theorem gX12_image_X12_copy : GoodIn wsX12_image (wsV RX12 145 RX12 yX12_copy wsX12_copy) := goodIn_app (goodIn_of _ (by decide +kernel)) ggX12_image_X12_copy
theorem dX12_image_0 : decode cX12_image 0 = .ok (.iload_n 1, 1) := by decide +kernel
theorem dX12_image_1 : decode cX12_image 1 = .ok (.iconst 0, 1) := by decide +kernel
theorem dX12_image_2 : decode cX12_image 2 = .ok (.iconst 1, 1) := by decide +kernel
theorem dX12_image_3 : decode cX12_image 3 = .ok (.invokestatic 63, 3) := by decide +kernel
theorem dX12_image_6 : decode cX12_image 6 = .ok (.ifCond .ne 8, 3) := by decide +kernel
theorem dX12_image_9 : decode cX12_image 9 = .ok (.aload_n 0, 1) := by decide +kernel
theorem dX12_image_10 : decode cX12_image 10 = .ok (.invokevirtual 56, 3) := by decide +kernel
theorem dX12_image_13 : decode cX12_image 13 = .ok (.ireturn, 1) := by decide +kernel
theorem dX12_image_14 : decode cX12_image 14 = .ok (.aload_n 0, 1) := by decide +kernel
theorem dX12_image_15 : decode cX12_image 15 = .ok (.iconst 0, 1) := by decide +kernel
theorem dX12_image_16 : decode cX12_image 16 = .ok (.bipush 113, 2) := by decide +kernel
theorem dX12_image_18 : decode cX12_image 18 = .ok (.iconst 1, 1) := by decide +kernel
theorem dX12_image_19 : decode cX12_image 19 = .ok (.iload_n 1, 1) := by decide +kernel
theorem dX12_image_20 : decode cX12_image 20 = .ok (.iadd, 1) := by decide +kernel
theorem dX12_image_21 : decode cX12_image 21 = .ok (.imul, 1) := by decide +kernel
theorem dX12_image_22 : decode cX12_image 22 = .ok (.invokevirtual 145, 3) := by decide +kernel
theorem dX12_image_25 : decode cX12_image 25 = .ok (.aload_n 0, 1) := by decide +kernel
theorem dX12_image_26 : decode cX12_image 26 = .ok (.getfield 13, 3) := by decide +kernel
theorem dX12_image_29 : decode cX12_image 29 = .ok (.iload_n 1, 1) := by decide +kernel
theorem dX12_image_30 : decode cX12_image 30 = .ok (.iconst 1, 1) := by decide +kernel
theorem dX12_image_31 : decode cX12_image 31 = .ok (.bastore, 1) := by decide +kernel
theorem dX12_image_32 : decode cX12_image 32 = .ok (.iconst 1, 1) := by decide +kernel
theorem dX12_image_33 : decode cX12_image 33 = .ok (.ireturn, 1) := by decide +kernel
set_option maxRecDepth 20000 in
theorem ggX12_from_X12_in : GoodIn wsX12_from wsX12_in := goodIn_r _ [5] (by decide +kernel) (by decide +kernel)
set_option maxRecDepth 20000 in
theorem gX12_from_X12_in : GoodIn wsX12_from (va_wsS RX12 63 yX12_in wsX12_in) := goodIn_app (goodIn_of _ (by decide +kernel)) ggX12_from_X12_in
set_option maxRecDepth 20000 in
theorem ggX12_from_X12_bad : GoodIn wsX12_from wsX12_bad := goodIn_r _ [9, 10, 20, 21, 22, 23, 24, 25, 26, 27, 28, 29, 30, 31, 32, 33, 34, 35, 36, 37, 38, 39, 40, 41, 42] (by decide +kernel) (by decide +kernel)
set_option maxRecDepth 20000 in
theorem gX12_from_X12_bad : GoodIn wsX12_from (wsV RX12 56 RX12 yX12_bad wsX12_bad) := goodIn_app (goodIn_of _ (by decide +kernel)) ggX12_from_X12_bad
set_option maxRecDepth 20000 in
theorem ggX12_from_X12_no : GoodIn wsX12_from wsX12_no := goodIn_r _ [14, 10, 20, 21, 22, 23, 24, 25, 26, 27, 28, 29, 30, 31, 32, 33, 34, 35, 36, 37, 38, 39, 40, 41, 42] (by decide +kernel) (by decide +kernel)
set_option maxRecDepth 20000 in
theorem gX12_from_X12_no : GoodIn wsX12_from (wsV RX12 85 RX12 yX12_no wsX12_no) := goodIn_app (goodIn_of _ (by decide +kernel)) ggX12_from_X12_no
set_option maxRecDepth 20000 in
theorem ggX12_from_X12_copy : GoodIn wsX12_from wsX12_copy := goodIn_r _ [18, 19, 20, 21, 22, 23, 24, 25, 26, 27, 28, 29, 30, 31, 32, 33, 34, 35, 36, 37, 38, 39, 40, 41, 42] (by decide +kernel) (by decide +kernel)
set_option maxRecDepth 20000 in
theorem gX12_from_X12_copy : GoodIn wsX12_from (wsV RX12 145 RX12 yX12_copy wsX12_copy) := goodIn_app (goodIn_of _ (by decide +kernel)) ggX12_from_X12_copy
theorem dX12_from_0 : decode cX12_from 0 = .ok (.iload_n 1, 1) := by decide +kernel
theorem dX12_from_1 : decode cX12_from 1 = .ok (.iconst 0, 1) := by decide +kernel
theorem dX12_from_2 : decode cX12_from 2 = .ok (.iconst 1, 1) := by decide +kernel
theorem dX12_from_3 : decode cX12_from 3 = .ok (.invokestatic 63, 3) := by decide +kernel
theorem dX12_from_6 : decode cX12_from 6 = .ok (.ifCond .ne 8, 3) := by decide +kernel
theorem dX12_from_9 : decode cX12_from 9 = .ok (.aload_n 0, 1) := by decide +kernel
theorem dX12_from_10 : decode cX12_from 10 = .ok (.invokevirtual 56, 3) := by decide +kernel
theorem dX12_from_13 : decode cX12_from 13 = .ok (.ireturn, 1) := by decide +kernel
theorem dX12_from_14 : decode cX12_from 14 = .ok (.aload_n 0, 1) := by decide +kernel
theorem dX12_from_15 : decode cX12_from 15 = .ok (.getfield 13, 3) := by decide +kernel
theorem dX12_from_18 : decode cX12_from 18 = .ok (.iload_n 1, 1) := by decide +kernel
theorem dX12_from_19 : decode cX12_from 19 = .ok (.baload, 1) := by decide +kernel
theorem dX12_from_20 : decode cX12_from 20 = .ok (.ifCond .ne 8, 3) := by decide +kernel
theorem dX12_from_23 : decode cX12_from 23 = .ok (.aload_n 0, 1) := by decide +kernel
theorem dX12_from_24 : decode cX12_from 24 = .ok (.invokevirtual 85, 3) := by decide +kernel
theorem dX12_from_27 : decode cX12_from 27 = .ok (.ireturn, 1) := by decide +kernel
theorem dX12_from_28 : decode cX12_from 28 = .ok (.aload_n 0, 1) := by decide +kernel
theorem dX12_from_29 : decode cX12_from 29 = .ok (.bipush 113, 2) := by decide +kernel
theorem dX12_from_31 : decode cX12_from 31 = .ok (.iconst 1, 1) := by decide +kernel
theorem dX12_from_32 : decode cX12_from 32 = .ok (.iload_n 1, 1) := by decide +kernel
theorem dX12_from_33 : decode cX12_from 33 = .ok (.iadd, 1) := by decide +kernel
theorem dX12_from_34 : decode cX12_from 34 = .ok (.imul, 1) := by decide +kernel
theorem dX12_from_35 : decode cX12_from 35 = .ok (.iconst 0, 1) := by decide +kernel
theorem dX12_from_36 : decode cX12_from 36 = .ok (.invokevirtual 145, 3) := by decide +kernel
theorem dX12_from_39 : decode cX12_from 39 = .ok (.iconst 1, 1) := by decide +kernel
theorem dX12_from_40 : decode cX12_from 40 = .ok (.ireturn, 1) := by decide +kernel
set_option maxRecDepth 20000 in
theorem ggX12_status_X12_in : GoodIn wsX12_status wsX12_in := goodIn_r _ [5] (by decide +kernel) (by decide +kernel)
set_option maxRecDepth 20000 in
theorem gX12_status_X12_in : GoodIn wsX12_status (va_wsS RX12 63 yX12_in wsX12_in) := goodIn_app (goodIn_of _ (by decide +kernel)) ggX12_status_X12_in
set_option maxRecDepth 20000 in
theorem ggX12_status_X12_bad : GoodIn wsX12_status wsX12_bad := goodIn_r _ [9, 1, 10, 11, 12, 13, 14, 15, 16, 17, 18, 19, 20, 21, 22, 23, 24, 25, 26, 27, 28, 29, 30, 31, 32] (by decide +kernel) (by decide +kernel)
set_option maxRecDepth 20000 in
theorem gX12_status_X12_bad : GoodIn wsX12_status (wsV RX12 56 RX12 yX12_bad wsX12_bad) := goodIn_app (goodIn_of _ (by decide +kernel)) ggX12_status_X12_bad
theorem dX12_status_0 : decode cX12_status 0 = .ok (.iload_n 1, 1) := by decide +kernel
theorem dX12_status_1 : decode cX12_status 1 = .ok (.iconst 0, 1) := by decide +kernel
theorem dX12_status_2 : decode cX12_status 2 = .ok (.iconst 2, 1) := by decide +kernel
theorem dX12_status_3 : decode cX12_status 3 = .ok (.invokestatic 63, 3) := by decide +kernel
theorem dX12_status_6 : decode cX12_status 6 = .ok (.ifCond .ne 10, 3) := by decide +kernel
theorem dX12_status_9 : decode cX12_status 9 = .ok (.aload_n 0, 1) := by decide +kernel
theorem dX12_status_10 : decode cX12_status 10 = .ok (.invokevirtual 56, 3) := by decide +kernel
theorem dX12_status_13 : decode cX12_status 13 = .ok (.pop, 1) := by decide +kernel
theorem dX12_status_14 : decode cX12_status 14 = .ok (.iconst (-1), 1) := by decide +kernel
theorem dX12_status_15 : decode cX12_status 15 = .ok (.ireturn, 1) := by decide +kernel
theorem dX12_status_16 : decode cX12_status 16 = .ok (.aload_n 0, 1) := by decide +kernel
theorem dX12_status_17 : decode cX12_status 17 = .ok (.getfield 17, 3) := by decide +kernel
theorem dX12_status_20 : decode cX12_status 20 = .ok (.iload_n 1, 1) := by decide +kernel
theorem dX12_status_21 : decode cX12_status 21 = .ok (.iaload, 1) := by decide +kernel
theorem dX12_status_22 : decode cX12_status 22 = .ok (.ireturn, 1) := by decide +kernel
set_option maxRecDepth 20000 in
theorem ggX12_count_X12_in : GoodIn wsX12_count wsX12_in := goodIn_r _ [6] (by decide +kernel) (by decide +kernel)
set_option maxRecDepth 20000 in
theorem gX12_count_X12_in : GoodIn wsX12_count (va_wsS RX12 63 yX12_in wsX12_in) := goodIn_app (goodIn_of _ (by decide +kernel)) ggX12_count_X12_in
set_option maxRecDepth 20000 in
theorem ggX12_count_X12_bad : GoodIn wsX12_count wsX12_bad := goodIn_r _ [10, 11, 12, 13, 14, 15, 16, 17, 18, 19, 20, 21, 22, 23, 24, 25, 26, 27, 28, 29, 30, 31, 32, 33, 34] (by decide +kernel) (by decide +kernel)
set_option maxRecDepth 20000 in
theorem gX12_count_X12_bad : GoodIn wsX12_count (wsV RX12 56 RX12 yX12_bad wsX12_bad) := goodIn_app (goodIn_of _ (by decide +kernel)) ggX12_count_X12_bad
theorem dX12_count_0 : decode cX12_count 0 = .ok (.iload_n 1, 1) := by decide +kernel
theorem dX12_count_1 : decode cX12_count 1 = .ok (.iconst 0, 1) := by decide +kernel
theorem dX12_count_2 : decode cX12_count 2 = .ok (.iconst 4, 1) := by decide +kernel
theorem dX12_count_3 : decode cX12_count 3 = .ok (.invokestatic 63, 3) := by decide +kernel
theorem dX12_count_6 : decode cX12_count 6 = .ok (.ifCond .ne 8, 3) := by decide +kernel
theorem dX12_count_9 : decode cX12_count 9 = .ok (.aload_n 0, 1) := by decide +kernel
theorem dX12_count_10 : decode cX12_count 10 = .ok (.invokevirtual 56, 3) := by decide +kernel
theorem dX12_count_13 : decode cX12_count 13 = .ok (.ireturn, 1) := by decide +kernel
theorem dX12_count_14 : decode cX12_count 14 = .ok (.iload_n 1, 1) := by decide +kernel
theorem dX12_count_15 : decode cX12_count 15 = .ok (.iconst 4, 1) := by decide +kernel
theorem dX12_count_16 : decode cX12_count 16 = .ok (.if_icmp .ne 10, 3) := by decide +kernel
theorem dX12_count_19 : decode cX12_count 19 = .ok (.aload_n 0, 1) := by decide +kernel
theorem dX12_count_20 : decode cX12_count 20 = .ok (.getfield 95, 3) := by decide +kernel
theorem dX12_count_23 : decode cX12_count 23 = .ok (.goto 11, 3) := by decide +kernel
theorem dX12_count_26 : decode cX12_count 26 = .ok (.aload_n 0, 1) := by decide +kernel
theorem dX12_count_27 : decode cX12_count 27 = .ok (.getfield 7, 3) := by decide +kernel
theorem dX12_count_30 : decode cX12_count 30 = .ok (.iconst 2, 1) := by decide +kernel
theorem dX12_count_31 : decode cX12_count 31 = .ok (.iload_n 1, 1) := by decide +kernel
theorem dX12_count_32 : decode cX12_count 32 = .ok (.iadd, 1) := by decide +kernel
theorem dX12_count_33 : decode cX12_count 33 = .ok (.iaload, 1) := by decide +kernel
theorem dX12_count_34 : decode cX12_count 34 = .ok (.ireturn, 1) := by decide +kernel
theorem dX12_digest_0 : decode cX12_digest 0 = .ok (.ldc2_w 216, 3) := by decide +kernel
theorem dX12_digest_3 : decode cX12_digest 3 = .ok (.lstore_n 1, 1) := by decide +kernel
theorem dX12_digest_4 : decode cX12_digest 4 = .ok (.iconst 0, 1) := by decide +kernel
theorem dX12_digest_5 : decode cX12_digest 5 = .ok (.istore_n 3, 1) := by decide +kernel
theorem dX12_digest_6 : decode cX12_digest 6 = .ok (.iload_n 3, 1) := by decide +kernel
theorem dX12_digest_7 : decode cX12_digest 7 = .ok (.iconst 4, 1) := by decide +kernel
theorem dX12_digest_8 : decode cX12_digest 8 = .ok (.if_icmp .ge 25, 3) := by decide +kernel
theorem dX12_digest_11 : decode cX12_digest 11 = .ok (.ldc2_w 218, 3) := by decide +kernel
theorem dX12_digest_14 : decode cX12_digest 14 = .ok (.lload_n 1, 1) := by decide +kernel
theorem dX12_digest_15 : decode cX12_digest 15 = .ok (.lmul, 1) := by decide +kernel
theorem dX12_digest_16 : decode cX12_digest 16 = .ok (.aload_n 0, 1) := by decide +kernel
theorem dX12_digest_17 : decode cX12_digest 17 = .ok (.getfield 7, 3) := by decide +kernel
theorem dX12_digest_20 : decode cX12_digest 20 = .ok (.iconst 2, 1) := by decide +kernel
theorem dX12_digest_21 : decode cX12_digest 21 = .ok (.iload_n 3, 1) := by decide +kernel
theorem dX12_digest_22 : decode cX12_digest 22 = .ok (.iadd, 1) := by decide +kernel
theorem dX12_digest_23 : decode cX12_digest 23 = .ok (.iaload, 1) := by decide +kernel
theorem dX12_digest_24 : decode cX12_digest 24 = .ok (.i2l, 1) := by decide +kernel
theorem dX12_digest_25 : decode cX12_digest 25 = .ok (.ladd, 1) := by decide +kernel
theorem dX12_digest_26 : decode cX12_digest 26 = .ok (.lstore_n 1, 1) := by decide +kernel
theorem dX12_digest_27 : decode cX12_digest 27 = .ok (.iinc 3 1, 3) := by decide +kernel
theorem dX12_digest_30 : decode cX12_digest 30 = .ok (.goto (-24), 3) := by decide +kernel
theorem dX12_digest_33 : decode cX12_digest 33 = .ok (.ldc2_w 218, 3) := by decide +kernel
theorem dX12_digest_36 : decode cX12_digest 36 = .ok (.lload_n 1, 1) := by decide +kernel
theorem dX12_digest_37 : decode cX12_digest 37 = .ok (.lmul, 1) := by decide +kernel
theorem dX12_digest_38 : decode cX12_digest 38 = .ok (.aload_n 0, 1) := by decide +kernel
theorem dX12_digest_39 : decode cX12_digest 39 = .ok (.getfield 95, 3) := by decide +kernel
theorem dX12_digest_42 : decode cX12_digest 42 = .ok (.i2l, 1) := by decide +kernel
theorem dX12_digest_43 : decode cX12_digest 43 = .ok (.ladd, 1) := by decide +kernel
theorem dX12_digest_44 : decode cX12_digest 44 = .ok (.lstore_n 1, 1) := by decide +kernel
theorem dX12_digest_45 : decode cX12_digest 45 = .ok (.ldc2_w 218, 3) := by decide +kernel
theorem dX12_digest_48 : decode cX12_digest 48 = .ok (.lload_n 1, 1) := by decide +kernel
theorem dX12_digest_49 : decode cX12_digest 49 = .ok (.lmul, 1) := by decide +kernel
theorem dX12_digest_50 : decode cX12_digest 50 = .ok (.aload_n 0, 1) := by decide +kernel
theorem dX12_digest_51 : decode cX12_digest 51 = .ok (.getfield 7, 3) := by decide +kernel
theorem dX12_digest_54 : decode cX12_digest 54 = .ok (.iconst 0, 1) := by decide +kernel
theorem dX12_digest_55 : decode cX12_digest 55 = .ok (.iaload, 1) := by decide +kernel
theorem dX12_digest_56 : decode cX12_digest 56 = .ok (.i2l, 1) := by decide +kernel
theorem dX12_digest_57 : decode cX12_digest 57 = .ok (.ladd, 1) := by decide +kernel
theorem dX12_digest_58 : decode cX12_digest 58 = .ok (.lstore_n 1, 1) := by decide +kernel
theorem dX12_digest_59 : decode cX12_digest 59 = .ok (.ldc2_w 218, 3) := by decide +kernel
theorem dX12_digest_62 : decode cX12_digest 62 = .ok (.lload_n 1, 1) := by decide +kernel
theorem dX12_digest_63 : decode cX12_digest 63 = .ok (.lmul, 1) := by decide +kernel
theorem dX12_digest_64 : decode cX12_digest 64 = .ok (.aload_n 0, 1) := by decide +kernel
theorem dX12_digest_65 : decode cX12_digest 65 = .ok (.getfield 7, 3) := by decide +kernel
theorem dX12_digest_68 : decode cX12_digest 68 = .ok (.iconst 1, 1) := by decide +kernel
theorem dX12_digest_69 : decode cX12_digest 69 = .ok (.iaload, 1) := by decide +kernel
theorem dX12_digest_70 : decode cX12_digest 70 = .ok (.i2l, 1) := by decide +kernel
theorem dX12_digest_71 : decode cX12_digest 71 = .ok (.ladd, 1) := by decide +kernel
theorem dX12_digest_72 : decode cX12_digest 72 = .ok (.lstore_n 1, 1) := by decide +kernel
theorem dX12_digest_73 : decode cX12_digest 73 = .ok (.iconst 0, 1) := by decide +kernel
theorem dX12_digest_74 : decode cX12_digest 74 = .ok (.istore_n 3, 1) := by decide +kernel
theorem dX12_digest_75 : decode cX12_digest 75 = .ok (.iload_n 3, 1) := by decide +kernel
theorem dX12_digest_76 : decode cX12_digest 76 = .ok (.bipush 6, 2) := by decide +kernel
theorem dX12_digest_78 : decode cX12_digest 78 = .ok (.aload_n 0, 1) := by decide +kernel
theorem dX12_digest_79 : decode cX12_digest 79 = .ok (.getfield 7, 3) := by decide +kernel
theorem dX12_digest_82 : decode cX12_digest 82 = .ok (.iconst 2, 1) := by decide +kernel
theorem dX12_digest_83 : decode cX12_digest 83 = .ok (.iaload, 1) := by decide +kernel
theorem dX12_digest_84 : decode cX12_digest 84 = .ok (.imul, 1) := by decide +kernel
theorem dX12_digest_85 : decode cX12_digest 85 = .ok (.if_icmp .ge 26, 3) := by decide +kernel
theorem dX12_digest_88 : decode cX12_digest 88 = .ok (.ldc2_w 218, 3) := by decide +kernel
theorem dX12_digest_91 : decode cX12_digest 91 = .ok (.lload_n 1, 1) := by decide +kernel
theorem dX12_digest_92 : decode cX12_digest 92 = .ok (.lmul, 1) := by decide +kernel
theorem dX12_digest_93 : decode cX12_digest 93 = .ok (.aload_n 0, 1) := by decide +kernel
theorem dX12_digest_94 : decode cX12_digest 94 = .ok (.getfield 7, 3) := by decide +kernel
theorem dX12_digest_97 : decode cX12_digest 97 = .ok (.bipush 6, 2) := by decide +kernel
theorem dX12_digest_99 : decode cX12_digest 99 = .ok (.iload_n 3, 1) := by decide +kernel
theorem dX12_digest_100 : decode cX12_digest 100 = .ok (.iadd, 1) := by decide +kernel
theorem dX12_digest_101 : decode cX12_digest 101 = .ok (.iaload, 1) := by decide +kernel
theorem dX12_digest_102 : decode cX12_digest 102 = .ok (.i2l, 1) := by decide +kernel
theorem dX12_digest_103 : decode cX12_digest 103 = .ok (.ladd, 1) := by decide +kernel
theorem dX12_digest_104 : decode cX12_digest 104 = .ok (.lstore_n 1, 1) := by decide +kernel
theorem dX12_digest_105 : decode cX12_digest 105 = .ok (.iinc 3 1, 3) := by decide +kernel
theorem dX12_digest_108 : decode cX12_digest 108 = .ok (.goto (-33), 3) := by decide +kernel
theorem dX12_digest_111 : decode cX12_digest 111 = .ok (.iconst 0, 1) := by decide +kernel
theorem dX12_digest_112 : decode cX12_digest 112 = .ok (.istore_n 3, 1) := by decide +kernel
theorem dX12_digest_113 : decode cX12_digest 113 = .ok (.iload_n 3, 1) := by decide +kernel
theorem dX12_digest_114 : decode cX12_digest 114 = .ok (.iconst 2, 1) := by decide +kernel
theorem dX12_digest_115 : decode cX12_digest 115 = .ok (.aload_n 0, 1) := by decide +kernel
theorem dX12_digest_116 : decode cX12_digest 116 = .ok (.getfield 7, 3) := by decide +kernel
theorem dX12_digest_119 : decode cX12_digest 119 = .ok (.iconst 3, 1) := by decide +kernel
theorem dX12_digest_120 : decode cX12_digest 120 = .ok (.iaload, 1) := by decide +kernel
theorem dX12_digest_121 : decode cX12_digest 121 = .ok (.imul, 1) := by decide +kernel
theorem dX12_digest_122 : decode cX12_digest 122 = .ok (.if_icmp .ge 26, 3) := by decide +kernel
theorem dX12_digest_125 : decode cX12_digest 125 = .ok (.ldc2_w 218, 3) := by decide +kernel
theorem dX12_digest_128 : decode cX12_digest 128 = .ok (.lload_n 1, 1) := by decide +kernel
theorem dX12_digest_129 : decode cX12_digest 129 = .ok (.lmul, 1) := by decide +kernel
theorem dX12_digest_130 : decode cX12_digest 130 = .ok (.aload_n 0, 1) := by decide +kernel
theorem dX12_digest_131 : decode cX12_digest 131 = .ok (.getfield 7, 3) := by decide +kernel
theorem dX12_digest_134 : decode cX12_digest 134 = .ok (.bipush 78, 2) := by decide +kernel
theorem dX12_digest_136 : decode cX12_digest 136 = .ok (.iload_n 3, 1) := by decide +kernel
theorem dX12_digest_137 : decode cX12_digest 137 = .ok (.iadd, 1) := by decide +kernel
theorem dX12_digest_138 : decode cX12_digest 138 = .ok (.iaload, 1) := by decide +kernel
theorem dX12_digest_139 : decode cX12_digest 139 = .ok (.i2l, 1) := by decide +kernel
theorem dX12_digest_140 : decode cX12_digest 140 = .ok (.ladd, 1) := by decide +kernel
theorem dX12_digest_141 : decode cX12_digest 141 = .ok (.lstore_n 1, 1) := by decide +kernel
theorem dX12_digest_142 : decode cX12_digest 142 = .ok (.iinc 3 1, 3) := by decide +kernel
theorem dX12_digest_145 : decode cX12_digest 145 = .ok (.goto (-32), 3) := by decide +kernel
theorem dX12_digest_148 : decode cX12_digest 148 = .ok (.iconst 0, 1) := by decide +kernel
theorem dX12_digest_149 : decode cX12_digest 149 = .ok (.istore_n 3, 1) := by decide +kernel
theorem dX12_digest_150 : decode cX12_digest 150 = .ok (.iload_n 3, 1) := by decide +kernel
theorem dX12_digest_151 : decode cX12_digest 151 = .ok (.iconst 3, 1) := by decide +kernel
theorem dX12_digest_152 : decode cX12_digest 152 = .ok (.aload_n 0, 1) := by decide +kernel
theorem dX12_digest_153 : decode cX12_digest 153 = .ok (.getfield 7, 3) := by decide +kernel
theorem dX12_digest_156 : decode cX12_digest 156 = .ok (.iconst 4, 1) := by decide +kernel
theorem dX12_digest_157 : decode cX12_digest 157 = .ok (.iaload, 1) := by decide +kernel
theorem dX12_digest_158 : decode cX12_digest 158 = .ok (.imul, 1) := by decide +kernel
theorem dX12_digest_159 : decode cX12_digest 159 = .ok (.if_icmp .ge 26, 3) := by decide +kernel
theorem dX12_digest_162 : decode cX12_digest 162 = .ok (.ldc2_w 218, 3) := by decide +kernel
theorem dX12_digest_165 : decode cX12_digest 165 = .ok (.lload_n 1, 1) := by decide +kernel
theorem dX12_digest_166 : decode cX12_digest 166 = .ok (.lmul, 1) := by decide +kernel
theorem dX12_digest_167 : decode cX12_digest 167 = .ok (.aload_n 0, 1) := by decide +kernel
theorem dX12_digest_168 : decode cX12_digest 168 = .ok (.getfield 7, 3) := by decide +kernel
theorem dX12_digest_171 : decode cX12_digest 171 = .ok (.bipush 86, 2) := by decide +kernel
theorem dX12_digest_173 : decode cX12_digest 173 = .ok (.iload_n 3, 1) := by decide +kernel
theorem dX12_digest_174 : decode cX12_digest 174 = .ok (.iadd, 1) := by decide +kernel
theorem dX12_digest_175 : decode cX12_digest 175 = .ok (.iaload, 1) := by decide +kernel
theorem dX12_digest_176 : decode cX12_digest 176 = .ok (.i2l, 1) := by decide +kernel
theorem dX12_digest_177 : decode cX12_digest 177 = .ok (.ladd, 1) := by decide +kernel
theorem dX12_digest_178 : decode cX12_digest 178 = .ok (.lstore_n 1, 1) := by decide +kernel
theorem dX12_digest_179 : decode cX12_digest 179 = .ok (.iinc 3 1, 3) := by decide +kernel
theorem dX12_digest_182 : decode cX12_digest 182 = .ok (.goto (-32), 3) := by decide +kernel
theorem dX12_digest_185 : decode cX12_digest 185 = .ok (.iconst 0, 1) := by decide +kernel
theorem dX12_digest_186 : decode cX12_digest 186 = .ok (.istore_n 3, 1) := by decide +kernel
theorem dX12_digest_187 : decode cX12_digest 187 = .ok (.iload_n 3, 1) := by decide +kernel
theorem dX12_digest_188 : decode cX12_digest 188 = .ok (.iconst 2, 1) := by decide +kernel
theorem dX12_digest_189 : decode cX12_digest 189 = .ok (.aload_n 0, 1) := by decide +kernel
theorem dX12_digest_190 : decode cX12_digest 190 = .ok (.getfield 7, 3) := by decide +kernel
theorem dX12_digest_193 : decode cX12_digest 193 = .ok (.iconst 5, 1) := by decide +kernel
theorem dX12_digest_194 : decode cX12_digest 194 = .ok (.iaload, 1) := by decide +kernel
theorem dX12_digest_195 : decode cX12_digest 195 = .ok (.imul, 1) := by decide +kernel
theorem dX12_digest_196 : decode cX12_digest 196 = .ok (.if_icmp .ge 26, 3) := by decide +kernel
theorem dX12_digest_199 : decode cX12_digest 199 = .ok (.ldc2_w 218, 3) := by decide +kernel
theorem dX12_digest_202 : decode cX12_digest 202 = .ok (.lload_n 1, 1) := by decide +kernel
theorem dX12_digest_203 : decode cX12_digest 203 = .ok (.lmul, 1) := by decide +kernel
theorem dX12_digest_204 : decode cX12_digest 204 = .ok (.aload_n 0, 1) := by decide +kernel
theorem dX12_digest_205 : decode cX12_digest 205 = .ok (.getfield 7, 3) := by decide +kernel
theorem dX12_digest_208 : decode cX12_digest 208 = .ok (.bipush 101, 2) := by decide +kernel
theorem dX12_digest_210 : decode cX12_digest 210 = .ok (.iload_n 3, 1) := by decide +kernel
theorem dX12_digest_211 : decode cX12_digest 211 = .ok (.iadd, 1) := by decide +kernel
theorem dX12_digest_212 : decode cX12_digest 212 = .ok (.iaload, 1) := by decide +kernel
theorem dX12_digest_213 : decode cX12_digest 213 = .ok (.i2l, 1) := by decide +kernel
theorem dX12_digest_214 : decode cX12_digest 214 = .ok (.ladd, 1) := by decide +kernel
theorem dX12_digest_215 : decode cX12_digest 215 = .ok (.lstore_n 1, 1) := by decide +kernel
theorem dX12_digest_216 : decode cX12_digest 216 = .ok (.iinc 3 1, 3) := by decide +kernel
theorem dX12_digest_219 : decode cX12_digest 219 = .ok (.goto (-32), 3) := by decide +kernel
theorem dX12_digest_222 : decode cX12_digest 222 = .ok (.ldc2_w 218, 3) := by decide +kernel
theorem dX12_digest_225 : decode cX12_digest 225 = .ok (.lload_n 1, 1) := by decide +kernel
theorem dX12_digest_226 : decode cX12_digest 226 = .ok (.lmul, 1) := by decide +kernel
theorem dX12_digest_227 : decode cX12_digest 227 = .ok (.aload_n 0, 1) := by decide +kernel
theorem dX12_digest_228 : decode cX12_digest 228 = .ok (.getfield 196, 3) := by decide +kernel
theorem dX12_digest_231 : decode cX12_digest 231 = .ok (.ladd, 1) := by decide +kernel
theorem dX12_digest_232 : decode cX12_digest 232 = .ok (.lstore_n 1, 1) := by decide +kernel
theorem dX12_digest_233 : decode cX12_digest 233 = .ok (.ldc2_w 218, 3) := by decide +kernel
theorem dX12_digest_236 : decode cX12_digest 236 = .ok (.lload_n 1, 1) := by decide +kernel
theorem dX12_digest_237 : decode cX12_digest 237 = .ok (.lmul, 1) := by decide +kernel
theorem dX12_digest_238 : decode cX12_digest 238 = .ok (.aload_n 0, 1) := by decide +kernel
theorem dX12_digest_239 : decode cX12_digest 239 = .ok (.getfield 52, 3) := by decide +kernel
theorem dX12_digest_242 : decode cX12_digest 242 = .ok (.ladd, 1) := by decide +kernel
theorem dX12_digest_243 : decode cX12_digest 243 = .ok (.lreturn, 1) := by decide +kernel
