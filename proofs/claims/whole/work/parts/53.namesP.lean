set_option maxRecDepth 20000 in
theorem ggX11_init_X6_init : GoodIn wsX11_init wsX6_init := goodIn_r _ [51, 52, 2, 3, 53, 54, 55, 56, 57, 58, 59, 60, 61, 62, 63, 64, 65, 66, 67, 68, 69, 70, 71, 72, 18, 73, 129, 130, 131, 132, 133, 148, 149, 150, 151] (by decide +kernel) (by decide +kernel)
set_option maxRecDepth 20000 in
theorem gX11_init_X6_init_n17 : GoodIn wsX11_init (wsX6_init) := ggX11_init_X6_init
set_option maxRecDepth 20000 in
theorem ggX11_init_X3_init : GoodIn wsX11_init wsX3_init := goodIn_r _ [75, 76, 2, 3, 18, 77, 78, 79, 80, 81, 134, 135, 136, 137, 138] (by decide +kernel) (by decide +kernel)
set_option maxRecDepth 20000 in
theorem gX11_init_X3_init_n24 : GoodIn wsX11_init (wsX3_init) := ggX11_init_X3_init
set_option maxRecDepth 20000 in
theorem ggX11_init_X8_init : GoodIn wsX11_init wsX8_init := goodIn_r _ [83, 84, 2, 3, 85, 86, 87, 139, 140] (by decide +kernel) (by decide +kernel)
set_option maxRecDepth 20000 in
theorem gX11_init_X8_init_n31 : GoodIn wsX11_init (wsX8_init) := ggX11_init_X8_init
set_option maxRecDepth 20000 in
theorem ggX11_init_X9_init : GoodIn wsX11_init wsX9_init := goodIn_r _ [89, 90, 2, 3] (by decide +kernel) (by decide +kernel)
set_option maxRecDepth 20000 in
theorem gX11_init_X9_init_n65 : GoodIn wsX11_init (wsX9_init) := ggX11_init_X9_init
set_option maxRecDepth 20000 in
theorem ggX11_init_X4_init : GoodIn wsX11_init wsX4_init := goodIn_r _ [92, 88, 29, 89, 90, 2, 3] (by decide +kernel) (by decide +kernel)
set_option maxRecDepth 20000 in
theorem gX11_init_X4_init_n68 : GoodIn wsX11_init (wsX4_init) := ggX11_init_X4_init
set_option maxRecDepth 20000 in
theorem ggX11_init_X10_init : GoodIn wsX11_init wsX10_init := goodIn_r _ [94, 91, 32, 92, 88, 29, 89, 90, 2, 3] (by decide +kernel) (by decide +kernel)
set_option maxRecDepth 20000 in
theorem gX11_init_X10_init_n71 : GoodIn wsX11_init (wsX10_init) := ggX11_init_X10_init
set_option maxRecDepth 20000 in
theorem ggX11_init_X2_init : GoodIn wsX11_init wsX2_init := goodIn_r _ [96, 88, 29, 89, 90, 2, 3] (by decide +kernel) (by decide +kernel)
set_option maxRecDepth 20000 in
theorem gX11_init_X2_init_n74 : GoodIn wsX11_init (wsX2_init) := ggX11_init_X2_init
set_option maxRecDepth 20000 in
theorem ggX11_init_X1_init : GoodIn wsX11_init wsX1_init := goodIn_r _ [98, 88, 29, 89, 90, 2, 3] (by decide +kernel) (by decide +kernel)
set_option maxRecDepth 20000 in
theorem gX11_init_X1_init_n77 : GoodIn wsX11_init (wsX1_init) := ggX11_init_X1_init
set_option maxRecDepth 20000 in
theorem ggX11_init_X0_init : GoodIn wsX11_init wsX0_init := goodIn_r _ [100, 93, 35, 94, 91, 32, 92, 88, 29, 89, 90, 2, 3] (by decide +kernel) (by decide +kernel)
set_option maxRecDepth 20000 in
theorem gX11_init_X0_init_n80 : GoodIn wsX11_init (wsX0_init) := ggX11_init_X0_init
set_option maxRecDepth 20000 in
theorem ggX11_init_X5_init : GoodIn wsX11_init wsX5_init := goodIn_r _ [103, 104, 2, 3, 105, 56, 57, 106, 107, 108, 109, 110, 111, 112, 113, 63, 64, 65, 66, 67, 68, 69, 70, 71, 72, 18, 73, 148, 149, 150, 151, 141, 142, 143, 144, 145, 146, 147] (by decide +kernel) (by decide +kernel)
set_option maxRecDepth 20000 in
theorem gX11_init_X5_init : GoodIn wsX11_init (wsX5_init) := ggX11_init_X5_init
theorem dX11_init_0 : decode cX11_init 0 = .ok (.aload_n 0, 1) := by decide +kernel
theorem dX11_init_1 : decode cX11_init 1 = .ok (.invokespecial 3, 3) := by decide +kernel
theorem dX11_init_4 : decode cX11_init 4 = .ok (.aload_n 0, 1) := by decide +kernel
theorem dX11_init_5 : decode cX11_init 5 = .ok (.iconst 2, 1) := by decide +kernel
theorem dX11_init_6 : decode cX11_init 6 = .ok (.anewarray 9, 3) := by decide +kernel
theorem dX11_init_9 : decode cX11_init 9 = .ok (.putfield 11, 3) := by decide +kernel
theorem dX11_init_12 : decode cX11_init 12 = .ok (.aload_n 0, 1) := by decide +kernel
theorem dX11_init_13 : decode cX11_init 13 = .ok (.new 15, 3) := by decide +kernel
theorem dX11_init_16 : decode cX11_init 16 = .ok (.dup, 1) := by decide +kernel
theorem dX11_init_17 : decode cX11_init 17 = .ok (.invokespecial 17, 3) := by decide +kernel
theorem dX11_init_20 : decode cX11_init 20 = .ok (.putfield 18, 3) := by decide +kernel
theorem dX11_init_23 : decode cX11_init 23 = .ok (.aload_n 0, 1) := by decide +kernel
theorem dX11_init_24 : decode cX11_init 24 = .ok (.new 22, 3) := by decide +kernel
theorem dX11_init_27 : decode cX11_init 27 = .ok (.dup, 1) := by decide +kernel
theorem dX11_init_28 : decode cX11_init 28 = .ok (.invokespecial 24, 3) := by decide +kernel
theorem dX11_init_31 : decode cX11_init 31 = .ok (.putfield 25, 3) := by decide +kernel
theorem dX11_init_34 : decode cX11_init 34 = .ok (.aload_n 0, 1) := by decide +kernel
theorem dX11_init_35 : decode cX11_init 35 = .ok (.new 29, 3) := by decide +kernel
theorem dX11_init_38 : decode cX11_init 38 = .ok (.dup, 1) := by decide +kernel
theorem dX11_init_39 : decode cX11_init 39 = .ok (.invokespecial 31, 3) := by decide +kernel
theorem dX11_init_42 : decode cX11_init 42 = .ok (.putfield 32, 3) := by decide +kernel
theorem dX11_init_45 : decode cX11_init 45 = .ok (.aload_n 0, 1) := by decide +kernel
theorem dX11_init_46 : decode cX11_init 46 = .ok (.sipush 372, 3) := by decide +kernel
theorem dX11_init_49 : decode cX11_init 49 = .ok (.newarray .int, 2) := by decide +kernel
theorem dX11_init_51 : decode cX11_init 51 = .ok (.putfield 36, 3) := by decide +kernel
theorem dX11_init_54 : decode cX11_init 54 = .ok (.aload_n 0, 1) := by decide +kernel
theorem dX11_init_55 : decode cX11_init 55 = .ok (.bipush 31, 2) := by decide +kernel
theorem dX11_init_57 : decode cX11_init 57 = .ok (.newarray .int, 2) := by decide +kernel
theorem dX11_init_59 : decode cX11_init 59 = .ok (.putfield 40, 3) := by decide +kernel
theorem dX11_init_62 : decode cX11_init 62 = .ok (.aload_n 0, 1) := by decide +kernel
theorem dX11_init_63 : decode cX11_init 63 = .ok (.bipush 31, 2) := by decide +kernel
theorem dX11_init_65 : decode cX11_init 65 = .ok (.newarray .int, 2) := by decide +kernel
theorem dX11_init_67 : decode cX11_init 67 = .ok (.putfield 43, 3) := by decide +kernel
theorem dX11_init_70 : decode cX11_init 70 = .ok (.aload_n 0, 1) := by decide +kernel
theorem dX11_init_71 : decode cX11_init 71 = .ok (.lconst 0, 1) := by decide +kernel
theorem dX11_init_72 : decode cX11_init 72 = .ok (.putfield 46, 3) := by decide +kernel
theorem dX11_init_75 : decode cX11_init 75 = .ok (.aload_n 0, 1) := by decide +kernel
theorem dX11_init_76 : decode cX11_init 76 = .ok (.lconst 1, 1) := by decide +kernel
theorem dX11_init_77 : decode cX11_init 77 = .ok (.putfield 50, 3) := by decide +kernel
theorem dX11_init_80 : decode cX11_init 80 = .ok (.aload_n 0, 1) := by decide +kernel
theorem dX11_init_81 : decode cX11_init 81 = .ok (.iconst 0, 1) := by decide +kernel
theorem dX11_init_82 : decode cX11_init 82 = .ok (.putfield 53, 3) := by decide +kernel
theorem dX11_init_85 : decode cX11_init 85 = .ok (.aload_n 0, 1) := by decide +kernel
theorem dX11_init_86 : decode cX11_init 86 = .ok (.iconst 0, 1) := by decide +kernel
theorem dX11_init_87 : decode cX11_init 87 = .ok (.putfield 57, 3) := by decide +kernel
theorem dX11_init_90 : decode cX11_init 90 = .ok (.aload_n 0, 1) := by decide +kernel
theorem dX11_init_91 : decode cX11_init 91 = .ok (.iconst 0, 1) := by decide +kernel
theorem dX11_init_92 : decode cX11_init 92 = .ok (.putfield 60, 3) := by decide +kernel
theorem dX11_init_95 : decode cX11_init 95 = .ok (.aload_n 0, 1) := by decide +kernel
theorem dX11_init_96 : decode cX11_init 96 = .ok (.bipush 6, 2) := by decide +kernel
theorem dX11_init_98 : decode cX11_init 98 = .ok (.anewarray 63, 3) := by decide +kernel
theorem dX11_init_101 : decode cX11_init 101 = .ok (.dup, 1) := by decide +kernel
theorem dX11_init_102 : decode cX11_init 102 = .ok (.iconst 0, 1) := by decide +kernel
theorem dX11_init_103 : decode cX11_init 103 = .ok (.new 63, 3) := by decide +kernel
theorem dX11_init_106 : decode cX11_init 106 = .ok (.dup, 1) := by decide +kernel
theorem dX11_init_107 : decode cX11_init 107 = .ok (.invokespecial 65, 3) := by decide +kernel
theorem dX11_init_110 : decode cX11_init 110 = .ok (.aastore, 1) := by decide +kernel
theorem dX11_init_111 : decode cX11_init 111 = .ok (.dup, 1) := by decide +kernel
theorem dX11_init_112 : decode cX11_init 112 = .ok (.iconst 1, 1) := by decide +kernel
theorem dX11_init_113 : decode cX11_init 113 = .ok (.new 66, 3) := by decide +kernel
theorem dX11_init_116 : decode cX11_init 116 = .ok (.dup, 1) := by decide +kernel
theorem dX11_init_117 : decode cX11_init 117 = .ok (.invokespecial 68, 3) := by decide +kernel
theorem dX11_init_120 : decode cX11_init 120 = .ok (.aastore, 1) := by decide +kernel
theorem dX11_init_121 : decode cX11_init 121 = .ok (.dup, 1) := by decide +kernel
theorem dX11_init_122 : decode cX11_init 122 = .ok (.iconst 2, 1) := by decide +kernel
theorem dX11_init_123 : decode cX11_init 123 = .ok (.new 69, 3) := by decide +kernel
theorem dX11_init_126 : decode cX11_init 126 = .ok (.dup, 1) := by decide +kernel
theorem dX11_init_127 : decode cX11_init 127 = .ok (.invokespecial 71, 3) := by decide +kernel
theorem dX11_init_130 : decode cX11_init 130 = .ok (.aastore, 1) := by decide +kernel
theorem dX11_init_131 : decode cX11_init 131 = .ok (.dup, 1) := by decide +kernel
theorem dX11_init_132 : decode cX11_init 132 = .ok (.iconst 3, 1) := by decide +kernel
theorem dX11_init_133 : decode cX11_init 133 = .ok (.new 72, 3) := by decide +kernel
theorem dX11_init_136 : decode cX11_init 136 = .ok (.dup, 1) := by decide +kernel
theorem dX11_init_137 : decode cX11_init 137 = .ok (.invokespecial 74, 3) := by decide +kernel
theorem dX11_init_140 : decode cX11_init 140 = .ok (.aastore, 1) := by decide +kernel
theorem dX11_init_141 : decode cX11_init 141 = .ok (.dup, 1) := by decide +kernel
theorem dX11_init_142 : decode cX11_init 142 = .ok (.iconst 4, 1) := by decide +kernel
theorem dX11_init_143 : decode cX11_init 143 = .ok (.new 75, 3) := by decide +kernel
theorem dX11_init_146 : decode cX11_init 146 = .ok (.dup, 1) := by decide +kernel
theorem dX11_init_147 : decode cX11_init 147 = .ok (.invokespecial 77, 3) := by decide +kernel
theorem dX11_init_150 : decode cX11_init 150 = .ok (.aastore, 1) := by decide +kernel
theorem dX11_init_151 : decode cX11_init 151 = .ok (.dup, 1) := by decide +kernel
theorem dX11_init_152 : decode cX11_init 152 = .ok (.iconst 5, 1) := by decide +kernel
theorem dX11_init_153 : decode cX11_init 153 = .ok (.new 78, 3) := by decide +kernel
theorem dX11_init_156 : decode cX11_init 156 = .ok (.dup, 1) := by decide +kernel
theorem dX11_init_157 : decode cX11_init 157 = .ok (.invokespecial 80, 3) := by decide +kernel
theorem dX11_init_160 : decode cX11_init 160 = .ok (.aastore, 1) := by decide +kernel
theorem dX11_init_161 : decode cX11_init 161 = .ok (.putfield 81, 3) := by decide +kernel
theorem dX11_init_164 : decode cX11_init 164 = .ok (.aload_n 0, 1) := by decide +kernel
theorem dX11_init_165 : decode cX11_init 165 = .ok (.new 9, 3) := by decide +kernel
theorem dX11_init_168 : decode cX11_init 168 = .ok (.dup, 1) := by decide +kernel
theorem dX11_init_169 : decode cX11_init 169 = .ok (.aload_n 0, 1) := by decide +kernel
theorem dX11_init_170 : decode cX11_init 170 = .ok (.getfield 81, 3) := by decide +kernel
theorem dX11_init_173 : decode cX11_init 173 = .ok (.invokespecial 85, 3) := by decide +kernel
theorem dX11_init_176 : decode cX11_init 176 = .ok (.putfield 88, 3) := by decide +kernel
theorem dX11_init_179 : decode cX11_init 179 = .ok (.aload_n 0, 1) := by decide +kernel
theorem dX11_init_180 : decode cX11_init 180 = .ok (.new 9, 3) := by decide +kernel
theorem dX11_init_183 : decode cX11_init 183 = .ok (.dup, 1) := by decide +kernel
theorem dX11_init_184 : decode cX11_init 184 = .ok (.aload_n 0, 1) := by decide +kernel
theorem dX11_init_185 : decode cX11_init 185 = .ok (.getfield 81, 3) := by decide +kernel
theorem dX11_init_188 : decode cX11_init 188 = .ok (.invokespecial 85, 3) := by decide +kernel
theorem dX11_init_191 : decode cX11_init 191 = .ok (.putfield 92, 3) := by decide +kernel
theorem dX11_init_194 : decode cX11_init 194 = .ok (.return_, 1) := by decide +kernel
set_option maxRecDepth 20000 in
theorem ggX11_wall_X5_setHigh : GoodIn wsX11_wall wsX5_setHigh := goodIn_r _ [6, 7, 8, 9, 10, 11, 12, 13, 36, 37, 38, 39, 40, 41, 42] (by decide +kernel) (by decide +kernel)
set_option maxRecDepth 20000 in
theorem gX11_wall_X5_setHigh : GoodIn wsX11_wall (wsV RX11 95 RX5 yX5_setHigh wsX5_setHigh) := goodIn_app (goodIn_of _ (by decide +kernel)) ggX11_wall_X5_setHigh
set_option maxRecDepth 20000 in
theorem ggX11_wall_X11_counted : GoodIn wsX11_wall wsX11_counted := goodIn_r _ [17, 18, 19, 20, 21, 22, 23, 24, 25, 26, 27, 28, 29, 30, 31, 32, 33, 34, 35] (by decide +kernel) (by decide +kernel)
set_option maxRecDepth 20000 in
theorem gX11_wall_X11_counted : GoodIn wsX11_wall (wsV RX11 99 RX11 yX11_counted wsX11_counted) := goodIn_app (goodIn_of _ (by decide +kernel)) ggX11_wall_X11_counted
theorem dX11_wall_0 : decode cX11_wall 0 = .ok (.aload_n 0, 1) := by decide +kernel
theorem dX11_wall_1 : decode cX11_wall 1 = .ok (.aload_n 0, 1) := by decide +kernel
theorem dX11_wall_2 : decode cX11_wall 2 = .ok (.getfield 88, 3) := by decide +kernel
theorem dX11_wall_5 : decode cX11_wall 5 = .ok (.iload_n 1, 1) := by decide +kernel
theorem dX11_wall_6 : decode cX11_wall 6 = .ok (.invokevirtual 95, 3) := by decide +kernel
theorem dX11_wall_9 : decode cX11_wall 9 = .ok (.invokevirtual 99, 3) := by decide +kernel
theorem dX11_wall_12 : decode cX11_wall 12 = .ok (.ireturn, 1) := by decide +kernel
set_option maxRecDepth 20000 in
theorem ggX11_coach_X5_setLow : GoodIn wsX11_coach wsX5_setLow := goodIn_r _ [6, 7, 8, 9, 10, 11, 12, 13, 36, 37, 38, 39, 40, 41, 42] (by decide +kernel) (by decide +kernel)
set_option maxRecDepth 20000 in
theorem gX11_coach_X5_setLow : GoodIn wsX11_coach (wsV RX11 102 RX5 yX5_setLow wsX5_setLow) := goodIn_app (goodIn_of _ (by decide +kernel)) ggX11_coach_X5_setLow
set_option maxRecDepth 20000 in
theorem ggX11_coach_X11_counted : GoodIn wsX11_coach wsX11_counted := goodIn_r _ [17, 18, 19, 20, 21, 22, 23, 24, 25, 26, 27, 28, 29, 30, 31, 32, 33, 34, 35] (by decide +kernel) (by decide +kernel)
set_option maxRecDepth 20000 in
theorem gX11_coach_X11_counted : GoodIn wsX11_coach (wsV RX11 99 RX11 yX11_counted wsX11_counted) := goodIn_app (goodIn_of _ (by decide +kernel)) ggX11_coach_X11_counted
theorem dX11_coach_0 : decode cX11_coach 0 = .ok (.aload_n 0, 1) := by decide +kernel
theorem dX11_coach_1 : decode cX11_coach 1 = .ok (.aload_n 0, 1) := by decide +kernel
theorem dX11_coach_2 : decode cX11_coach 2 = .ok (.getfield 88, 3) := by decide +kernel
theorem dX11_coach_5 : decode cX11_coach 5 = .ok (.iload_n 1, 1) := by decide +kernel
theorem dX11_coach_6 : decode cX11_coach 6 = .ok (.invokevirtual 102, 3) := by decide +kernel
theorem dX11_coach_9 : decode cX11_coach 9 = .ok (.invokevirtual 99, 3) := by decide +kernel
theorem dX11_coach_12 : decode cX11_coach 12 = .ok (.ireturn, 1) := by decide +kernel
set_option maxRecDepth 20000 in
theorem ggX11_passer_X5_addPasser : GoodIn wsX11_passer wsX5_addPasser := goodIn_r _ [6, 7, 8, 9, 10, 11, 12, 13, 14, 15, 16, 17, 18, 19, 20, 21, 22, 23, 24, 25, 26, 27, 28, 29, 30, 31, 32, 33, 34, 35, 36, 37, 38, 39, 40, 41, 64, 65, 66, 67, 68, 69, 70, 71, 72, 73, 74] (by decide +kernel) (by decide +kernel)
set_option maxRecDepth 20000 in
theorem gX11_passer_X5_addPasser : GoodIn wsX11_passer (wsV RX11 105 RX5 yX5_addPasser wsX5_addPasser) := goodIn_app (goodIn_of _ (by decide +kernel)) ggX11_passer_X5_addPasser
set_option maxRecDepth 20000 in
theorem ggX11_passer_X11_counted : GoodIn wsX11_passer wsX11_counted := goodIn_r _ [45, 46, 47, 48, 49, 50, 51, 52, 53, 54, 55, 56, 57, 58, 59, 60, 61, 62, 63] (by decide +kernel) (by decide +kernel)
set_option maxRecDepth 20000 in
theorem gX11_passer_X11_counted : GoodIn wsX11_passer (wsV RX11 99 RX11 yX11_counted wsX11_counted) := goodIn_app (goodIn_of _ (by decide +kernel)) ggX11_passer_X11_counted
theorem dX11_passer_0 : decode cX11_passer 0 = .ok (.aload_n 0, 1) := by decide +kernel
theorem dX11_passer_1 : decode cX11_passer 1 = .ok (.aload_n 0, 1) := by decide +kernel
theorem dX11_passer_2 : decode cX11_passer 2 = .ok (.getfield 88, 3) := by decide +kernel
theorem dX11_passer_5 : decode cX11_passer 5 = .ok (.iload_n 1, 1) := by decide +kernel
theorem dX11_passer_6 : decode cX11_passer 6 = .ok (.iload_n 2, 1) := by decide +kernel
theorem dX11_passer_7 : decode cX11_passer 7 = .ok (.iload_n 3, 1) := by decide +kernel
theorem dX11_passer_8 : decode cX11_passer 8 = .ok (.iload 4, 2) := by decide +kernel
theorem dX11_passer_10 : decode cX11_passer 10 = .ok (.invokevirtual 105, 3) := by decide +kernel
theorem dX11_passer_13 : decode cX11_passer 13 = .ok (.invokevirtual 99, 3) := by decide +kernel
theorem dX11_passer_16 : decode cX11_passer 16 = .ok (.ireturn, 1) := by decide +kernel
set_option maxRecDepth 20000 in
theorem ggX11_undo_X7_size : GoodIn wsX11_undo wsX7_size := goodIn_r _ [6, 7, 42, 43, 44, 45] (by decide +kernel) (by decide +kernel)
set_option maxRecDepth 20000 in
theorem gX11_undo_X7_size : GoodIn wsX11_undo (wsV RX11 113 RX7 yX7_size wsX7_size) := goodIn_app (goodIn_of _ (by decide +kernel)) ggX11_undo_X7_size
set_option maxRecDepth 20000 in
theorem ggX11_undo_X11_counted : GoodIn wsX11_undo wsX11_counted := goodIn_r _ [12, 13, 14, 15, 20, 21, 22, 23, 24, 25, 26, 27, 28, 29, 30, 31, 32, 33, 34] (by decide +kernel) (by decide +kernel)
set_option maxRecDepth 20000 in
theorem gX11_undo_X11_counted : GoodIn wsX11_undo (wsV RX11 99 RX11 yX11_counted wsX11_counted) := goodIn_app (goodIn_of _ (by decide +kernel)) ggX11_undo_X11_counted
set_option maxRecDepth 20000 in
theorem ggX11_undo_X7_dropLast : GoodIn wsX11_undo wsX7_dropLast := goodIn_r _ [19, 7, 42, 43, 44, 45] (by decide +kernel) (by decide +kernel)
set_option maxRecDepth 20000 in
theorem gX11_undo_X7_dropLast : GoodIn wsX11_undo (wsV RX11 119 RX7 yX7_dropLast wsX7_dropLast) := goodIn_app (goodIn_of _ (by decide +kernel)) ggX11_undo_X7_dropLast
theorem dX11_undo_0 : decode cX11_undo 0 = .ok (.aload_n 0, 1) := by decide +kernel
theorem dX11_undo_1 : decode cX11_undo 1 = .ok (.getfield 88, 3) := by decide +kernel
theorem dX11_undo_4 : decode cX11_undo 4 = .ok (.getfield 109, 3) := by decide +kernel
theorem dX11_undo_7 : decode cX11_undo 7 = .ok (.invokevirtual 113, 3) := by decide +kernel
theorem dX11_undo_10 : decode cX11_undo 10 = .ok (.ifCond .ne 10, 3) := by decide +kernel
theorem dX11_undo_13 : decode cX11_undo 13 = .ok (.aload_n 0, 1) := by decide +kernel
theorem dX11_undo_14 : decode cX11_undo 14 = .ok (.bipush (-3), 2) := by decide +kernel
theorem dX11_undo_16 : decode cX11_undo 16 = .ok (.invokevirtual 99, 3) := by decide +kernel
theorem dX11_undo_19 : decode cX11_undo 19 = .ok (.ireturn, 1) := by decide +kernel
theorem dX11_undo_20 : decode cX11_undo 20 = .ok (.aload_n 0, 1) := by decide +kernel
theorem dX11_undo_21 : decode cX11_undo 21 = .ok (.getfield 88, 3) := by decide +kernel
theorem dX11_undo_24 : decode cX11_undo 24 = .ok (.getfield 109, 3) := by decide +kernel
theorem dX11_undo_27 : decode cX11_undo 27 = .ok (.invokevirtual 119, 3) := by decide +kernel
theorem dX11_undo_30 : decode cX11_undo 30 = .ok (.aload_n 0, 1) := by decide +kernel
theorem dX11_undo_31 : decode cX11_undo 31 = .ok (.getfield 88, 3) := by decide +kernel
theorem dX11_undo_34 : decode cX11_undo 34 = .ok (.getfield 109, 3) := by decide +kernel
theorem dX11_undo_37 : decode cX11_undo 37 = .ok (.invokevirtual 113, 3) := by decide +kernel
theorem dX11_undo_40 : decode cX11_undo 40 = .ok (.ireturn, 1) := by decide +kernel
set_option maxRecDepth 20000 in
theorem ggX11_beast_X5_addBeast : GoodIn wsX11_beast wsX5_addBeast := goodIn_r _ [6, 7, 8, 9, 10, 11, 12, 13, 14, 15, 16, 17, 18, 19, 20, 21, 22, 23, 24, 25, 26, 27, 28, 29, 30, 31, 32, 55, 56, 57, 58, 59, 60, 61, 62, 63, 64, 65] (by decide +kernel) (by decide +kernel)
set_option maxRecDepth 20000 in
theorem gX11_beast_X5_addBeast : GoodIn wsX11_beast (wsV RX11 122 RX5 yX5_addBeast wsX5_addBeast) := goodIn_app (goodIn_of _ (by decide +kernel)) ggX11_beast_X5_addBeast
set_option maxRecDepth 20000 in
theorem ggX11_beast_X11_counted : GoodIn wsX11_beast wsX11_counted := goodIn_r _ [36, 37, 38, 39, 40, 41, 42, 43, 44, 45, 46, 47, 48, 49, 50, 51, 52, 53, 54] (by decide +kernel) (by decide +kernel)
set_option maxRecDepth 20000 in
theorem gX11_beast_X11_counted : GoodIn wsX11_beast (wsV RX11 99 RX11 yX11_counted wsX11_counted) := goodIn_app (goodIn_of _ (by decide +kernel)) ggX11_beast_X11_counted
theorem dX11_beast_0 : decode cX11_beast 0 = .ok (.aload_n 0, 1) := by decide +kernel
theorem dX11_beast_1 : decode cX11_beast 1 = .ok (.aload_n 0, 1) := by decide +kernel
theorem dX11_beast_2 : decode cX11_beast 2 = .ok (.getfield 88, 3) := by decide +kernel
theorem dX11_beast_5 : decode cX11_beast 5 = .ok (.iload_n 1, 1) := by decide +kernel
theorem dX11_beast_6 : decode cX11_beast 6 = .ok (.iload_n 2, 1) := by decide +kernel
theorem dX11_beast_7 : decode cX11_beast 7 = .ok (.invokevirtual 122, 3) := by decide +kernel
theorem dX11_beast_10 : decode cX11_beast 10 = .ok (.invokevirtual 99, 3) := by decide +kernel
theorem dX11_beast_13 : decode cX11_beast 13 = .ok (.ireturn, 1) := by decide +kernel
set_option maxRecDepth 20000 in
theorem ggX11_odds_X7_has : GoodIn wsX11_odds wsX7_has := goodIn_r _ [6, 7, 47, 48, 49, 50] (by decide +kernel) (by decide +kernel)
set_option maxRecDepth 20000 in
theorem gX11_odds_X7_has : GoodIn wsX11_odds (wsV RX11 126 RX7 yX7_has wsX7_has) := goodIn_app (goodIn_of _ (by decide +kernel)) ggX11_odds_X7_has
set_option maxRecDepth 20000 in
theorem ggX11_odds_X11_within : GoodIn wsX11_odds wsX11_within := goodIn_r _ [11] (by decide +kernel) (by decide +kernel)
set_option maxRecDepth 20000 in
theorem gX11_odds_X11_within : GoodIn wsX11_odds (va_wsS RX11 130 yX11_within wsX11_within) := goodIn_app (goodIn_of _ (by decide +kernel)) ggX11_odds_X11_within
set_option maxRecDepth 20000 in
theorem ggX11_odds_X11_counted : GoodIn wsX11_odds wsX11_counted := goodIn_r _ [15, 16, 17, 18, 25, 26, 27, 28, 29, 30, 31, 32, 33, 34, 35, 36, 37, 38, 39] (by decide +kernel) (by decide +kernel)
set_option maxRecDepth 20000 in
theorem gX11_odds_X11_counted : GoodIn wsX11_odds (wsV RX11 99 RX11 yX11_counted wsX11_counted) := goodIn_app (goodIn_of _ (by decide +kernel)) ggX11_odds_X11_counted
set_option maxRecDepth 20000 in
theorem ggX11_odds_X7_put : GoodIn wsX11_odds wsX7_put := goodIn_r _ [22, 23, 24, 47, 48, 49, 50] (by decide +kernel) (by decide +kernel)
set_option maxRecDepth 20000 in
theorem gX11_odds_X7_put : GoodIn wsX11_odds (wsV RX11 134 RX7 yX7_put wsX7_put) := goodIn_app (goodIn_of _ (by decide +kernel)) ggX11_odds_X7_put
theorem dX11_odds_0 : decode cX11_odds 0 = .ok (.aload_n 0, 1) := by decide +kernel
theorem dX11_odds_1 : decode cX11_odds 1 = .ok (.getfield 88, 3) := by decide +kernel
theorem dX11_odds_4 : decode cX11_odds 4 = .ok (.getfield 109, 3) := by decide +kernel
theorem dX11_odds_7 : decode cX11_odds 7 = .ok (.iload_n 1, 1) := by decide +kernel
theorem dX11_odds_8 : decode cX11_odds 8 = .ok (.invokevirtual 126, 3) := by decide +kernel
theorem dX11_odds_11 : decode cX11_odds 11 = .ok (.ifCond .eq 25, 3) := by decide +kernel
theorem dX11_odds_14 : decode cX11_odds 14 = .ok (.iload_n 2, 1) := by decide +kernel
theorem dX11_odds_15 : decode cX11_odds 15 = .ok (.iconst 0, 1) := by decide +kernel
theorem dX11_odds_16 : decode cX11_odds 16 = .ok (.bipush 10, 2) := by decide +kernel
theorem dX11_odds_18 : decode cX11_odds 18 = .ok (.invokestatic 130, 3) := by decide +kernel
theorem dX11_odds_21 : decode cX11_odds 21 = .ok (.ifCond .eq 15, 3) := by decide +kernel
theorem dX11_odds_24 : decode cX11_odds 24 = .ok (.iload_n 3, 1) := by decide +kernel
theorem dX11_odds_25 : decode cX11_odds 25 = .ok (.iconst 0, 1) := by decide +kernel
theorem dX11_odds_26 : decode cX11_odds 26 = .ok (.bipush 10, 2) := by decide +kernel
theorem dX11_odds_28 : decode cX11_odds 28 = .ok (.iload_n 2, 1) := by decide +kernel
theorem dX11_odds_29 : decode cX11_odds 29 = .ok (.isub, 1) := by decide +kernel
theorem dX11_odds_30 : decode cX11_odds 30 = .ok (.invokestatic 130, 3) := by decide +kernel
theorem dX11_odds_33 : decode cX11_odds 33 = .ok (.ifCond .ne 10, 3) := by decide +kernel
theorem dX11_odds_36 : decode cX11_odds 36 = .ok (.aload_n 0, 1) := by decide +kernel
theorem dX11_odds_37 : decode cX11_odds 37 = .ok (.bipush (-2), 2) := by decide +kernel
theorem dX11_odds_39 : decode cX11_odds 39 = .ok (.invokevirtual 99, 3) := by decide +kernel
theorem dX11_odds_42 : decode cX11_odds 42 = .ok (.ireturn, 1) := by decide +kernel
theorem dX11_odds_43 : decode cX11_odds 43 = .ok (.aload_n 0, 1) := by decide +kernel
theorem dX11_odds_44 : decode cX11_odds 44 = .ok (.getfield 88, 3) := by decide +kernel
theorem dX11_odds_47 : decode cX11_odds 47 = .ok (.getfield 109, 3) := by decide +kernel
theorem dX11_odds_50 : decode cX11_odds 50 = .ok (.iload_n 1, 1) := by decide +kernel
theorem dX11_odds_51 : decode cX11_odds 51 = .ok (.iconst 4, 1) := by decide +kernel
theorem dX11_odds_52 : decode cX11_odds 52 = .ok (.iload_n 2, 1) := by decide +kernel
theorem dX11_odds_53 : decode cX11_odds 53 = .ok (.invokevirtual 134, 3) := by decide +kernel
theorem dX11_odds_56 : decode cX11_odds 56 = .ok (.aload_n 0, 1) := by decide +kernel
theorem dX11_odds_57 : decode cX11_odds 57 = .ok (.getfield 88, 3) := by decide +kernel
theorem dX11_odds_60 : decode cX11_odds 60 = .ok (.getfield 109, 3) := by decide +kernel
theorem dX11_odds_63 : decode cX11_odds 63 = .ok (.iload_n 1, 1) := by decide +kernel
theorem dX11_odds_64 : decode cX11_odds 64 = .ok (.iconst 5, 1) := by decide +kernel
theorem dX11_odds_65 : decode cX11_odds 65 = .ok (.iload_n 3, 1) := by decide +kernel
theorem dX11_odds_66 : decode cX11_odds 66 = .ok (.invokevirtual 134, 3) := by decide +kernel
theorem dX11_odds_69 : decode cX11_odds 69 = .ok (.iconst 1, 1) := by decide +kernel
theorem dX11_odds_70 : decode cX11_odds 70 = .ok (.ireturn, 1) := by decide +kernel
set_option maxRecDepth 20000 in
theorem ggX11_type_X11_within : GoodIn wsX11_type wsX11_within := goodIn_r _ [5] (by decide +kernel) (by decide +kernel)
set_option maxRecDepth 20000 in
theorem gX11_type_X11_within : GoodIn wsX11_type (va_wsS RX11 130 yX11_within wsX11_within) := goodIn_app (goodIn_of _ (by decide +kernel)) ggX11_type_X11_within
set_option maxRecDepth 20000 in
theorem ggX11_type_X11_counted : GoodIn wsX11_type wsX11_counted := goodIn_r _ [9, 10, 11, 12, 24, 25, 26, 27, 28, 29, 30, 31, 32, 33, 34, 35, 36, 37, 38] (by decide +kernel) (by decide +kernel)
set_option maxRecDepth 20000 in
theorem gX11_type_X11_counted : GoodIn wsX11_type (wsV RX11 99 RX11 yX11_counted wsX11_counted) := goodIn_app (goodIn_of _ (by decide +kernel)) ggX11_type_X11_counted
set_option maxRecDepth 20000 in
theorem ggX11_type_X6_size : GoodIn wsX11_type wsX6_size := goodIn_r _ [17, 18, 39, 40, 41, 42, 43] (by decide +kernel) (by decide +kernel)
set_option maxRecDepth 20000 in
theorem gX11_type_X6_size : GoodIn wsX11_type (wsV RX11 138 RX6 yX6_size wsX6_size) := goodIn_app (goodIn_of _ (by decide +kernel)) ggX11_type_X6_size
set_option maxRecDepth 20000 in
theorem ggX11_type_X6_append : GoodIn wsX11_type wsX6_append := goodIn_r _ [22, 18, 23, 39, 40, 41, 42, 43] (by decide +kernel) (by decide +kernel)
set_option maxRecDepth 20000 in
theorem gX11_type_X6_append : GoodIn wsX11_type (wsV RX11 139 RX6 yX6_append wsX6_append) := goodIn_app (goodIn_of _ (by decide +kernel)) ggX11_type_X6_append
theorem dX11_type_0 : decode cX11_type 0 = .ok (.iload_n 3, 1) := by decide +kernel
theorem dX11_type_1 : decode cX11_type 1 = .ok (.iconst 1, 1) := by decide +kernel
theorem dX11_type_2 : decode cX11_type 2 = .ok (.bipush 8, 2) := by decide +kernel
theorem dX11_type_4 : decode cX11_type 4 = .ok (.invokestatic 130, 3) := by decide +kernel
theorem dX11_type_7 : decode cX11_type 7 = .ok (.ifCond .ne 10, 3) := by decide +kernel
theorem dX11_type_10 : decode cX11_type 10 = .ok (.aload_n 0, 1) := by decide +kernel
theorem dX11_type_11 : decode cX11_type 11 = .ok (.bipush (-2), 2) := by decide +kernel
theorem dX11_type_13 : decode cX11_type 13 = .ok (.invokevirtual 99, 3) := by decide +kernel
theorem dX11_type_16 : decode cX11_type 16 = .ok (.ireturn, 1) := by decide +kernel
theorem dX11_type_17 : decode cX11_type 17 = .ok (.aload_n 0, 1) := by decide +kernel
theorem dX11_type_18 : decode cX11_type 18 = .ok (.getfield 18, 3) := by decide +kernel
theorem dX11_type_21 : decode cX11_type 21 = .ok (.invokevirtual 138, 3) := by decide +kernel
theorem dX11_type_24 : decode cX11_type 24 = .ok (.iload_n 3, 1) := by decide +kernel
theorem dX11_type_25 : decode cX11_type 25 = .ok (.iadd, 1) := by decide +kernel
theorem dX11_type_26 : decode cX11_type 26 = .ok (.sipush 200, 3) := by decide +kernel
theorem dX11_type_29 : decode cX11_type 29 = .ok (.if_icmp .le 10, 3) := by decide +kernel
theorem dX11_type_32 : decode cX11_type 32 = .ok (.aload_n 0, 1) := by decide +kernel
theorem dX11_type_33 : decode cX11_type 33 = .ok (.bipush (-4), 2) := by decide +kernel
theorem dX11_type_35 : decode cX11_type 35 = .ok (.invokevirtual 99, 3) := by decide +kernel
theorem dX11_type_38 : decode cX11_type 38 = .ok (.ireturn, 1) := by decide +kernel
theorem dX11_type_39 : decode cX11_type 39 = .ok (.iload_n 3, 1) := by decide +kernel
theorem dX11_type_40 : decode cX11_type 40 = .ok (.iconst 1, 1) := by decide +kernel
theorem dX11_type_41 : decode cX11_type 41 = .ok (.isub, 1) := by decide +kernel
theorem dX11_type_42 : decode cX11_type 42 = .ok (.istore 4, 2) := by decide +kernel
theorem dX11_type_44 : decode cX11_type 44 = .ok (.iload 4, 2) := by decide +kernel
theorem dX11_type_46 : decode cX11_type 46 = .ok (.ifCond .lt 25, 3) := by decide +kernel
theorem dX11_type_49 : decode cX11_type 49 = .ok (.aload_n 0, 1) := by decide +kernel
theorem dX11_type_50 : decode cX11_type 50 = .ok (.getfield 18, 3) := by decide +kernel
theorem dX11_type_53 : decode cX11_type 53 = .ok (.lload_n 1, 1) := by decide +kernel
theorem dX11_type_54 : decode cX11_type 54 = .ok (.bipush 8, 2) := by decide +kernel
theorem dX11_type_56 : decode cX11_type 56 = .ok (.iload 4, 2) := by decide +kernel
theorem dX11_type_58 : decode cX11_type 58 = .ok (.imul, 1) := by decide +kernel
theorem dX11_type_59 : decode cX11_type 59 = .ok (.lshr, 1) := by decide +kernel
theorem dX11_type_60 : decode cX11_type 60 = .ok (.l2i, 1) := by decide +kernel
theorem dX11_type_61 : decode cX11_type 61 = .ok (.i2b, 1) := by decide +kernel
theorem dX11_type_62 : decode cX11_type 62 = .ok (.invokevirtual 139, 3) := by decide +kernel
theorem dX11_type_65 : decode cX11_type 65 = .ok (.iinc 4 (-1), 3) := by decide +kernel
theorem dX11_type_68 : decode cX11_type 68 = .ok (.goto (-24), 3) := by decide +kernel
theorem dX11_type_71 : decode cX11_type 71 = .ok (.aload_n 0, 1) := by decide +kernel
theorem dX11_type_72 : decode cX11_type 72 = .ok (.getfield 18, 3) := by decide +kernel
theorem dX11_type_75 : decode cX11_type 75 = .ok (.invokevirtual 138, 3) := by decide +kernel
theorem dX11_type_78 : decode cX11_type 78 = .ok (.ireturn, 1) := by decide +kernel
set_option maxRecDepth 20000 in
theorem ggX11_clear_X6_makeEmpty : GoodIn wsX11_clear wsX6_makeEmpty := goodIn_r _ [6, 7, 23, 24, 25, 26, 27] (by decide +kernel) (by decide +kernel)
set_option maxRecDepth 20000 in
theorem gX11_clear_X6_makeEmpty : GoodIn wsX11_clear (wsV RX11 143 RX6 yX6_makeEmpty wsX6_makeEmpty) := goodIn_app (goodIn_of _ (by decide +kernel)) ggX11_clear_X6_makeEmpty
theorem dX11_clear_0 : decode cX11_clear 0 = .ok (.aload_n 0, 1) := by decide +kernel
theorem dX11_clear_1 : decode cX11_clear 1 = .ok (.getfield 18, 3) := by decide +kernel
theorem dX11_clear_4 : decode cX11_clear 4 = .ok (.invokevirtual 143, 3) := by decide +kernel
theorem dX11_clear_7 : decode cX11_clear 7 = .ok (.ireturn, 1) := by decide +kernel
set_option maxRecDepth 20000 in
theorem ggX11_read_X6_findFault : GoodIn wsX11_read wsX6_findFault := goodIn_r _ [8, 9, 10, 11, 12, 13, 14, 15, 16, 17, 18, 19, 20, 21, 7, 22, 23, 24, 25, 26, 27, 28, 29, 30, 31, 32, 33, 34, 35, 36, 37, 38, 39, 40, 41, 42, 43, 44, 45, 46, 47, 48, 49, 50, 51, 52, 53, 54, 55, 56, 57, 58, 59, 60, 61, 62, 63, 64, 65, 66, 67, 68, 69, 70, 71, 72, 73, 74, 75, 76, 77, 78, 79, 80, 81, 82, 83, 84, 85, 86, 87, 88, 89, 90, 91, 92, 93, 94, 95, 96, 97, 98, 99, 100, 101, 102, 103, 104, 105, 106, 107, 108, 109, 110, 111, 112, 113, 114, 115, 116, 117, 118, 119, 219, 220, 221, 222, 223, 224, 225, 226, 227] (by decide +kernel) (by decide +kernel)
set_option maxRecDepth 20000 in
theorem gX11_read_X6_findFault : GoodIn wsX11_read (wsV RX11 146 RX6 yX6_findFault wsX6_findFault) := goodIn_app (goodIn_of _ (by decide +kernel)) ggX11_read_X6_findFault
set_option maxRecDepth 20000 in
theorem ggX11_read_X5_makeNew : GoodIn wsX11_read wsX5_makeNew := goodIn_r _ [124, 125, 126, 127, 128, 129, 130, 131, 14, 15, 16, 17, 18, 228, 229, 230, 231, 232, 233, 234, 224, 225, 226, 227] (by decide +kernel) (by decide +kernel)
set_option maxRecDepth 20000 in
theorem gX11_read_X5_makeNew : GoodIn wsX11_read (wsV RX11 149 RX5 yX5_makeNew wsX5_makeNew) := goodIn_app (goodIn_of _ (by decide +kernel)) ggX11_read_X5_makeNew
set_option maxRecDepth 20000 in
theorem ggX11_read_X6_itemCount : GoodIn wsX11_read wsX6_itemCount := goodIn_r _ [135, 9, 136, 137, 138, 16, 139, 18, 219, 220, 221, 222, 223, 224, 225, 226, 227] (by decide +kernel) (by decide +kernel)
set_option maxRecDepth 20000 in
theorem gX11_read_X6_itemCount : GoodIn wsX11_read (wsV RX11 152 RX6 yX6_itemCount wsX6_itemCount) := goodIn_app (goodIn_of _ (by decide +kernel)) ggX11_read_X6_itemCount
set_option maxRecDepth 20000 in
theorem ggX11_read_X11_tellItem : GoodIn wsX11_read wsX11_tellItem := goodIn_r _ [144, 1, 2, 145, 146, 147, 7, 148, 9, 109, 110, 111, 16, 112, 107, 108, 149, 150, 151, 152, 153, 154, 155, 123, 156, 125, 157, 143, 158, 159, 160, 161, 162, 163, 164, 165, 127, 166, 167, 168, 169, 170, 171, 172, 18, 173, 174, 95, 96, 97, 98, 99, 100, 101, 102, 175, 104, 105, 106, 176, 177, 178, 179, 128, 180, 181, 182, 183, 129, 184, 185, 186, 187, 130, 188, 189, 190, 191, 126, 204, 205, 206, 207, 208, 209, 210, 211, 212, 213, 214, 215, 216, 217, 218, 219, 220, 221, 222, 223, 224, 225, 226, 227, 228, 229, 230, 231, 232, 233, 234] (by decide +kernel) (by decide +kernel)
set_option maxRecDepth 20000 in
theorem gX11_read_X11_tellItem : GoodIn wsX11_read (wsV RX11 155 RX11 yX11_tellItem wsX11_tellItem) := goodIn_app (goodIn_of _ (by decide +kernel)) ggX11_read_X11_tellItem
set_option maxRecDepth 20000 in
theorem ggX11_read_X5_become : GoodIn wsX11_read wsX5_become := goodIn_r _ [195, 125, 126, 127, 128, 129, 130, 196, 197, 198, 16, 199, 18, 102, 200, 201, 202, 203, 108, 228, 229, 230, 231, 232, 233, 234, 224, 225, 226, 227] (by decide +kernel) (by decide +kernel)
set_option maxRecDepth 20000 in
theorem gX11_read_X5_become : GoodIn wsX11_read (wsV RX11 158 RX5 yX5_become wsX5_become) := goodIn_app (goodIn_of _ (by decide +kernel)) ggX11_read_X5_become
theorem dX11_read_0 : decode cX11_read 0 = .ok (.aload_n 0, 1) := by decide +kernel
theorem dX11_read_1 : decode cX11_read 1 = .ok (.getfield 18, 3) := by decide +kernel
theorem dX11_read_4 : decode cX11_read 4 = .ok (.invokevirtual 146, 3) := by decide +kernel
theorem dX11_read_7 : decode cX11_read 7 = .ok (.istore_n 1, 1) := by decide +kernel
theorem dX11_read_8 : decode cX11_read 8 = .ok (.iload_n 1, 1) := by decide +kernel
theorem dX11_read_9 : decode cX11_read 9 = .ok (.iconst (-1), 1) := by decide +kernel
theorem dX11_read_10 : decode cX11_read 10 = .ok (.if_icmp .eq 8, 3) := by decide +kernel
theorem dX11_read_13 : decode cX11_read 13 = .ok (.bipush (-10), 2) := by decide +kernel
theorem dX11_read_15 : decode cX11_read 15 = .ok (.iload_n 1, 1) := by decide +kernel
theorem dX11_read_16 : decode cX11_read 16 = .ok (.isub, 1) := by decide +kernel
theorem dX11_read_17 : decode cX11_read 17 = .ok (.ireturn, 1) := by decide +kernel
theorem dX11_read_18 : decode cX11_read 18 = .ok (.aload_n 0, 1) := by decide +kernel
theorem dX11_read_19 : decode cX11_read 19 = .ok (.getfield 92, 3) := by decide +kernel
theorem dX11_read_22 : decode cX11_read 22 = .ok (.invokevirtual 149, 3) := by decide +kernel
theorem dX11_read_25 : decode cX11_read 25 = .ok (.aload_n 0, 1) := by decide +kernel
theorem dX11_read_26 : decode cX11_read 26 = .ok (.getfield 18, 3) := by decide +kernel
theorem dX11_read_29 : decode cX11_read 29 = .ok (.invokevirtual 152, 3) := by decide +kernel
theorem dX11_read_32 : decode cX11_read 32 = .ok (.istore_n 2, 1) := by decide +kernel
theorem dX11_read_33 : decode cX11_read 33 = .ok (.iconst 0, 1) := by decide +kernel
theorem dX11_read_34 : decode cX11_read 34 = .ok (.istore_n 3, 1) := by decide +kernel
theorem dX11_read_35 : decode cX11_read 35 = .ok (.iload_n 3, 1) := by decide +kernel
theorem dX11_read_36 : decode cX11_read 36 = .ok (.iload_n 2, 1) := by decide +kernel
theorem dX11_read_37 : decode cX11_read 37 = .ok (.if_icmp .ge 23, 3) := by decide +kernel
theorem dX11_read_40 : decode cX11_read 40 = .ok (.aload_n 0, 1) := by decide +kernel
theorem dX11_read_41 : decode cX11_read 41 = .ok (.iload_n 3, 1) := by decide +kernel
theorem dX11_read_42 : decode cX11_read 42 = .ok (.invokevirtual 155, 3) := by decide +kernel
theorem dX11_read_45 : decode cX11_read 45 = .ok (.ifCond .ge 9, 3) := by decide +kernel
theorem dX11_read_48 : decode cX11_read 48 = .ok (.sipush (-1000), 3) := by decide +kernel
theorem dX11_read_51 : decode cX11_read 51 = .ok (.iload_n 3, 1) := by decide +kernel
theorem dX11_read_52 : decode cX11_read 52 = .ok (.isub, 1) := by decide +kernel
theorem dX11_read_53 : decode cX11_read 53 = .ok (.ireturn, 1) := by decide +kernel
theorem dX11_read_54 : decode cX11_read 54 = .ok (.iinc 3 1, 3) := by decide +kernel
theorem dX11_read_57 : decode cX11_read 57 = .ok (.goto (-22), 3) := by decide +kernel
theorem dX11_read_60 : decode cX11_read 60 = .ok (.aload_n 0, 1) := by decide +kernel
theorem dX11_read_61 : decode cX11_read 61 = .ok (.getfield 88, 3) := by decide +kernel
theorem dX11_read_64 : decode cX11_read 64 = .ok (.aload_n 0, 1) := by decide +kernel
theorem dX11_read_65 : decode cX11_read 65 = .ok (.getfield 92, 3) := by decide +kernel
theorem dX11_read_68 : decode cX11_read 68 = .ok (.invokevirtual 158, 3) := by decide +kernel
theorem dX11_read_71 : decode cX11_read 71 = .ok (.iload_n 2, 1) := by decide +kernel
theorem dX11_read_72 : decode cX11_read 72 = .ok (.ireturn, 1) := by decide +kernel
set_option maxRecDepth 20000 in
theorem ggX11_height_X11_isMinute : GoodIn wsX11_height wsX11_isMinute := goodIn_r _ [5, 6, 7, 4, 8] (by decide +kernel) (by decide +kernel)
set_option maxRecDepth 20000 in
theorem gX11_height_X11_isMinute : GoodIn wsX11_height (va_wsS RX11 162 yX11_isMinute wsX11_isMinute) := goodIn_app (goodIn_of _ (by decide +kernel)) ggX11_height_X11_isMinute
set_option maxRecDepth 20000 in
theorem ggX11_height_X11_counted : GoodIn wsX11_height wsX11_counted := goodIn_r _ [12, 13, 14, 15, 124, 125, 126, 127, 128, 129, 130, 131, 132, 133, 134, 135, 136, 137, 138] (by decide +kernel) (by decide +kernel)
set_option maxRecDepth 20000 in
theorem gX11_height_X11_counted : GoodIn wsX11_height (wsV RX11 99 RX11 yX11_counted wsX11_counted) := goodIn_app (goodIn_of _ (by decide +kernel)) ggX11_height_X11_counted
set_option maxRecDepth 20000 in
theorem ggX11_height_X5_highIn : GoodIn wsX11_height wsX5_highIn := goodIn_r _ [20, 21, 22, 23, 19, 24, 25, 26, 27, 28, 29, 30, 31, 32, 33, 34, 35, 36, 37, 38, 39, 40, 41, 42, 43, 4, 44, 45, 46, 47, 48, 49, 50, 51, 52, 53, 54, 55, 56, 57, 58, 59, 60, 61, 62, 63, 64, 65, 66, 67, 68, 69, 70, 71, 72, 73, 74, 75, 76, 77, 78, 79, 80, 81, 82, 83, 84, 85, 86, 87, 88, 89, 90, 91, 92, 93, 94, 95, 96, 97, 98, 99, 100, 101, 102, 103, 104, 105, 106, 107, 108, 109, 110, 111, 112, 113, 114, 115, 116, 117, 118, 119, 120, 121, 122, 123, 139, 140, 141, 142, 143, 144, 145, 146, 147, 148, 149] (by decide +kernel) (by decide +kernel)
set_option maxRecDepth 20000 in
theorem gX11_height_X5_highIn : GoodIn wsX11_height (wsV RX11 165 RX5 yX5_highIn wsX5_highIn) := goodIn_app (goodIn_of _ (by decide +kernel)) ggX11_height_X5_highIn
theorem dX11_height_0 : decode cX11_height 0 = .ok (.iload_n 1, 1) := by decide +kernel
theorem dX11_height_1 : decode cX11_height 1 = .ok (.invokestatic 162, 3) := by decide +kernel
theorem dX11_height_4 : decode cX11_height 4 = .ok (.ifCond .ne 10, 3) := by decide +kernel
theorem dX11_height_7 : decode cX11_height 7 = .ok (.aload_n 0, 1) := by decide +kernel
theorem dX11_height_8 : decode cX11_height 8 = .ok (.bipush (-2), 2) := by decide +kernel
theorem dX11_height_10 : decode cX11_height 10 = .ok (.invokevirtual 99, 3) := by decide +kernel
theorem dX11_height_13 : decode cX11_height 13 = .ok (.ireturn, 1) := by decide +kernel
theorem dX11_height_14 : decode cX11_height 14 = .ok (.aload_n 0, 1) := by decide +kernel
theorem dX11_height_15 : decode cX11_height 15 = .ok (.getfield 88, 3) := by decide +kernel
theorem dX11_height_18 : decode cX11_height 18 = .ok (.iload_n 1, 1) := by decide +kernel
theorem dX11_height_19 : decode cX11_height 19 = .ok (.invokevirtual 165, 3) := by decide +kernel
theorem dX11_height_22 : decode cX11_height 22 = .ok (.ireturn, 1) := by decide +kernel
set_option maxRecDepth 20000 in
theorem ggX11_does_X7_has : GoodIn wsX11_does wsX7_has := goodIn_r _ [6, 7, 131, 132, 133, 134] (by decide +kernel) (by decide +kernel)
set_option maxRecDepth 20000 in
theorem gX11_does_X7_has : GoodIn wsX11_does (wsV RX11 126 RX7 yX7_has wsX7_has) := goodIn_app (goodIn_of _ (by decide +kernel)) ggX11_does_X7_has
set_option maxRecDepth 20000 in
theorem ggX11_does_X11_badAs : GoodIn wsX11_does wsX11_badAs := goodIn_r _ [12, 13, 109, 110, 111, 112, 113, 114, 115, 116, 117, 118, 119, 120, 121, 122, 123] (by decide +kernel) (by decide +kernel)
set_option maxRecDepth 20000 in
theorem gX11_does_X11_badAs : GoodIn wsX11_does (wsV RX11 168 RX11 yX11_badAs wsX11_badAs) := goodIn_app (goodIn_of _ (by decide +kernel)) ggX11_does_X11_badAs
set_option maxRecDepth 20000 in
theorem ggX11_does_X5_firstStand : GoodIn wsX11_does wsX5_firstStand := goodIn_r _ [18, 19, 20, 11, 21, 124, 125, 126, 127, 128, 129, 130] (by decide +kernel) (by decide +kernel)
set_option maxRecDepth 20000 in
theorem gX11_does_X5_firstStand : GoodIn wsX11_does (wsV RX11 171 RX5 yX5_firstStand wsX5_firstStand) := goodIn_app (goodIn_of _ (by decide +kernel)) ggX11_does_X5_firstStand
set_option maxRecDepth 20000 in
theorem ggX11_does_X5_walk : GoodIn wsX11_does wsX5_walk := goodIn_r _ [25, 26, 11, 27, 28, 29, 30, 31, 32, 17, 33, 34, 35, 36, 37, 38, 5, 39, 40, 41, 42, 43, 44, 45, 46, 47, 48, 49, 50, 51, 52, 53, 54, 55, 56, 57, 58, 59, 60, 61, 62, 63, 64, 65, 66, 67, 68, 69, 70, 71, 72, 73, 74, 75, 76, 77, 78, 79, 80, 81, 82, 83, 84, 85, 86, 87, 88, 89, 90, 91, 92, 93, 94, 95, 96, 97, 98, 99, 100, 101, 102, 103, 104, 105, 106, 107, 20, 21, 124, 125, 126, 127, 128, 129, 130, 131, 132, 133, 134] (by decide +kernel) (by decide +kernel)
set_option maxRecDepth 20000 in
theorem gX11_does_X5_walk : GoodIn wsX11_does (wsV RX11 174 RX5 yX5_walk wsX5_walk) := goodIn_app (goodIn_of _ (by decide +kernel)) ggX11_does_X5_walk
set_option maxRecDepth 20000 in
theorem ggX11_does_X11_didOf : GoodIn wsX11_does wsX11_didOf := goodIn_r _ [29] (by decide +kernel) (by decide +kernel)
set_option maxRecDepth 20000 in
theorem gX11_does_X11_didOf : GoodIn wsX11_does (va_wsS RX11 178 yX11_didOf wsX11_didOf) := goodIn_app (goodIn_of _ (by decide +kernel)) ggX11_does_X11_didOf
theorem dX11_does_0 : decode cX11_does 0 = .ok (.aload_n 0, 1) := by decide +kernel
theorem dX11_does_1 : decode cX11_does 1 = .ok (.getfield 88, 3) := by decide +kernel
theorem dX11_does_4 : decode cX11_does 4 = .ok (.getfield 109, 3) := by decide +kernel
theorem dX11_does_7 : decode cX11_does 7 = .ok (.iload_n 1, 1) := by decide +kernel
theorem dX11_does_8 : decode cX11_does 8 = .ok (.invokevirtual 126, 3) := by decide +kernel
theorem dX11_does_11 : decode cX11_does 11 = .ok (.ifCond .ne 10, 3) := by decide +kernel
theorem dX11_does_14 : decode cX11_does 14 = .ok (.aload_n 0, 1) := by decide +kernel
theorem dX11_does_15 : decode cX11_does 15 = .ok (.bipush (-10), 2) := by decide +kernel
theorem dX11_does_17 : decode cX11_does 17 = .ok (.invokevirtual 168, 3) := by decide +kernel
theorem dX11_does_20 : decode cX11_does 20 = .ok (.ireturn, 1) := by decide +kernel
theorem dX11_does_21 : decode cX11_does 21 = .ok (.aload_n 0, 1) := by decide +kernel
theorem dX11_does_22 : decode cX11_does 22 = .ok (.getfield 88, 3) := by decide +kernel
theorem dX11_does_25 : decode cX11_does 25 = .ok (.iconst 0, 1) := by decide +kernel
theorem dX11_does_26 : decode cX11_does 26 = .ok (.iload_n 1, 1) := by decide +kernel
theorem dX11_does_27 : decode cX11_does 27 = .ok (.iconst 1, 1) := by decide +kernel
theorem dX11_does_28 : decode cX11_does 28 = .ok (.iadd, 1) := by decide +kernel
theorem dX11_does_29 : decode cX11_does 29 = .ok (.aload_n 0, 1) := by decide +kernel
theorem dX11_does_30 : decode cX11_does 30 = .ok (.getfield 88, 3) := by decide +kernel
theorem dX11_does_33 : decode cX11_does 33 = .ok (.invokevirtual 171, 3) := by decide +kernel
theorem dX11_does_36 : decode cX11_does 36 = .ok (.invokevirtual 174, 3) := by decide +kernel
theorem dX11_does_39 : decode cX11_does 39 = .ok (.invokestatic 178, 3) := by decide +kernel
theorem dX11_does_42 : decode cX11_does 42 = .ok (.ireturn, 1) := by decide +kernel
set_option maxRecDepth 20000 in
theorem ggX11_over_X7_has : GoodIn wsX11_over wsX7_has := goodIn_r _ [6, 7, 145, 146, 147, 148] (by decide +kernel) (by decide +kernel)
set_option maxRecDepth 20000 in
theorem gX11_over_X7_has : GoodIn wsX11_over (wsV RX11 126 RX7 yX7_has wsX7_has) := goodIn_app (goodIn_of _ (by decide +kernel)) ggX11_over_X7_has
set_option maxRecDepth 20000 in
theorem ggX11_over_X11_counted : GoodIn wsX11_over wsX11_counted := goodIn_r _ [12, 13, 14, 15, 123, 124, 125, 126, 127, 128, 129, 130, 131, 132, 133, 134, 135, 136, 137] (by decide +kernel) (by decide +kernel)
set_option maxRecDepth 20000 in
theorem gX11_over_X11_counted : GoodIn wsX11_over (wsV RX11 99 RX11 yX11_counted wsX11_counted) := goodIn_app (goodIn_of _ (by decide +kernel)) ggX11_over_X11_counted
set_option maxRecDepth 20000 in
theorem ggX11_over_X7_at : GoodIn wsX11_over wsX7_at := goodIn_r _ [19, 20, 21, 145, 146, 147, 148] (by decide +kernel) (by decide +kernel)
set_option maxRecDepth 20000 in
theorem gX11_over_X7_at : GoodIn wsX11_over (wsV RX11 184 RX7 yX7_at wsX7_at) := goodIn_app (goodIn_of _ (by decide +kernel)) ggX11_over_X7_at
set_option maxRecDepth 20000 in
theorem ggX11_over_X5_highIn : GoodIn wsX11_over wsX5_highIn := goodIn_r _ [26, 27, 28, 29, 25, 30, 31, 32, 33, 34, 5, 35, 7, 36, 17, 18, 19, 20, 21, 37, 38, 39, 40, 41, 42, 11, 43, 44, 45, 46, 47, 48, 49, 50, 51, 52, 53, 54, 55, 56, 57, 58, 59, 60, 61, 62, 63, 64, 65, 66, 67, 68, 69, 70, 71, 72, 73, 74, 75, 76, 77, 78, 79, 80, 81, 82, 83, 84, 85, 86, 87, 88, 89, 90, 91, 92, 93, 94, 95, 96, 97, 98, 99, 100, 101, 102, 103, 104, 105, 106, 107, 108, 109, 110, 111, 112, 113, 114, 115, 116, 117, 118, 119, 120, 121, 122, 138, 139, 140, 141, 142, 143, 144, 145, 146, 147, 148] (by decide +kernel) (by decide +kernel)
set_option maxRecDepth 20000 in
theorem gX11_over_X5_highIn : GoodIn wsX11_over (wsV RX11 165 RX5 yX5_highIn wsX5_highIn) := goodIn_app (goodIn_of _ (by decide +kernel)) ggX11_over_X5_highIn
theorem dX11_over_0 : decode cX11_over 0 = .ok (.aload_n 0, 1) := by decide +kernel
theorem dX11_over_1 : decode cX11_over 1 = .ok (.getfield 88, 3) := by decide +kernel
theorem dX11_over_4 : decode cX11_over 4 = .ok (.getfield 181, 3) := by decide +kernel
theorem dX11_over_7 : decode cX11_over 7 = .ok (.iload_n 1, 1) := by decide +kernel
theorem dX11_over_8 : decode cX11_over 8 = .ok (.invokevirtual 126, 3) := by decide +kernel
theorem dX11_over_11 : decode cX11_over 11 = .ok (.ifCond .ne 10, 3) := by decide +kernel
theorem dX11_over_14 : decode cX11_over 14 = .ok (.aload_n 0, 1) := by decide +kernel
theorem dX11_over_15 : decode cX11_over 15 = .ok (.bipush (-2), 2) := by decide +kernel
theorem dX11_over_17 : decode cX11_over 17 = .ok (.invokevirtual 99, 3) := by decide +kernel
theorem dX11_over_20 : decode cX11_over 20 = .ok (.ireturn, 1) := by decide +kernel
theorem dX11_over_21 : decode cX11_over 21 = .ok (.aload_n 0, 1) := by decide +kernel
theorem dX11_over_22 : decode cX11_over 22 = .ok (.getfield 88, 3) := by decide +kernel
theorem dX11_over_25 : decode cX11_over 25 = .ok (.aload_n 0, 1) := by decide +kernel
theorem dX11_over_26 : decode cX11_over 26 = .ok (.getfield 88, 3) := by decide +kernel
theorem dX11_over_29 : decode cX11_over 29 = .ok (.getfield 181, 3) := by decide +kernel
theorem dX11_over_32 : decode cX11_over 32 = .ok (.iload_n 1, 1) := by decide +kernel
theorem dX11_over_33 : decode cX11_over 33 = .ok (.iconst 0, 1) := by decide +kernel
theorem dX11_over_34 : decode cX11_over 34 = .ok (.invokevirtual 184, 3) := by decide +kernel
theorem dX11_over_37 : decode cX11_over 37 = .ok (.invokevirtual 165, 3) := by decide +kernel
theorem dX11_over_40 : decode cX11_over 40 = .ok (.aload_n 0, 1) := by decide +kernel
theorem dX11_over_41 : decode cX11_over 41 = .ok (.getfield 88, 3) := by decide +kernel
theorem dX11_over_44 : decode cX11_over 44 = .ok (.getfield 181, 3) := by decide +kernel
theorem dX11_over_47 : decode cX11_over 47 = .ok (.iload_n 1, 1) := by decide +kernel
theorem dX11_over_48 : decode cX11_over 48 = .ok (.iconst 1, 1) := by decide +kernel
theorem dX11_over_49 : decode cX11_over 49 = .ok (.invokevirtual 184, 3) := by decide +kernel
theorem dX11_over_52 : decode cX11_over 52 = .ok (.if_icmp .gt 7, 3) := by decide +kernel
theorem dX11_over_55 : decode cX11_over 55 = .ok (.iconst 1, 1) := by decide +kernel
theorem dX11_over_56 : decode cX11_over 56 = .ok (.goto 4, 3) := by decide +kernel
theorem dX11_over_59 : decode cX11_over 59 = .ok (.iconst 0, 1) := by decide +kernel
theorem dX11_over_60 : decode cX11_over 60 = .ok (.ireturn, 1) := by decide +kernel
set_option maxRecDepth 20000 in
theorem ggX11_through_X5_firstStand : GoodIn wsX11_through wsX5_firstStand := goodIn_r _ [6, 7, 8, 9, 10, 119, 120, 121, 122, 123, 124, 125] (by decide +kernel) (by decide +kernel)
set_option maxRecDepth 20000 in
theorem gX11_through_X5_firstStand : GoodIn wsX11_through (wsV RX11 171 RX5 yX5_firstStand wsX5_firstStand) := goodIn_app (goodIn_of _ (by decide +kernel)) ggX11_through_X5_firstStand
set_option maxRecDepth 20000 in
theorem ggX11_through_X7_size : GoodIn wsX11_through wsX7_size := goodIn_r _ [15, 16, 126, 127, 128, 129] (by decide +kernel) (by decide +kernel)
set_option maxRecDepth 20000 in
theorem gX11_through_X7_size : GoodIn wsX11_through (wsV RX11 113 RX7 yX7_size wsX7_size) := goodIn_app (goodIn_of _ (by decide +kernel)) ggX11_through_X7_size
set_option maxRecDepth 20000 in
theorem ggX11_through_X5_walk : GoodIn wsX11_through wsX5_walk := goodIn_r _ [20, 21, 9, 22, 23, 24, 25, 26, 27, 5, 28, 29, 30, 31, 32, 33, 14, 34, 35, 36, 37, 38, 39, 40, 41, 42, 43, 44, 45, 46, 47, 48, 49, 50, 51, 52, 53, 54, 55, 56, 57, 58, 59, 60, 61, 62, 63, 64, 65, 66, 67, 68, 69, 70, 71, 72, 73, 74, 75, 76, 77, 78, 79, 80, 81, 82, 83, 84, 85, 86, 87, 88, 89, 90, 91, 92, 93, 94, 95, 96, 97, 98, 99, 100, 101, 102, 8, 10, 119, 120, 121, 122, 123, 124, 125, 126, 127, 128, 129] (by decide +kernel) (by decide +kernel)
set_option maxRecDepth 20000 in
theorem gX11_through_X5_walk : GoodIn wsX11_through (wsV RX11 174 RX5 yX5_walk wsX5_walk) := goodIn_app (goodIn_of _ (by decide +kernel)) ggX11_through_X5_walk
set_option maxRecDepth 20000 in
theorem ggX11_through_X11_highOf : GoodIn wsX11_through wsX11_highOf := goodIn_r _ [22] (by decide +kernel) (by decide +kernel)
set_option maxRecDepth 20000 in
theorem gX11_through_X11_highOf : GoodIn wsX11_through (va_wsS RX11 193 yX11_highOf wsX11_highOf) := goodIn_app (goodIn_of _ (by decide +kernel)) ggX11_through_X11_highOf
theorem dX11_through_0 : decode cX11_through 0 = .ok (.aload_n 0, 1) := by decide +kernel
theorem dX11_through_1 : decode cX11_through 1 = .ok (.getfield 88, 3) := by decide +kernel
theorem dX11_through_4 : decode cX11_through 4 = .ok (.getfield 187, 3) := by decide +kernel
theorem dX11_through_7 : decode cX11_through 7 = .ok (.aload_n 0, 1) := by decide +kernel
theorem dX11_through_8 : decode cX11_through 8 = .ok (.getfield 88, 3) := by decide +kernel
theorem dX11_through_11 : decode cX11_through 11 = .ok (.getfield 190, 3) := by decide +kernel
theorem dX11_through_14 : decode cX11_through 14 = .ok (.if_icmp .gt 6, 3) := by decide +kernel
theorem dX11_through_17 : decode cX11_through 17 = .ok (.bipush (-5), 2) := by decide +kernel
theorem dX11_through_19 : decode cX11_through 19 = .ok (.ireturn, 1) := by decide +kernel
theorem dX11_through_20 : decode cX11_through 20 = .ok (.aload_n 0, 1) := by decide +kernel
theorem dX11_through_21 : decode cX11_through 21 = .ok (.getfield 88, 3) := by decide +kernel
theorem dX11_through_24 : decode cX11_through 24 = .ok (.invokevirtual 171, 3) := by decide +kernel
theorem dX11_through_27 : decode cX11_through 27 = .ok (.istore_n 1, 1) := by decide +kernel
theorem dX11_through_28 : decode cX11_through 28 = .ok (.iconst 0, 1) := by decide +kernel
theorem dX11_through_29 : decode cX11_through 29 = .ok (.istore_n 2, 1) := by decide +kernel
theorem dX11_through_30 : decode cX11_through 30 = .ok (.iload_n 2, 1) := by decide +kernel
theorem dX11_through_31 : decode cX11_through 31 = .ok (.aload_n 0, 1) := by decide +kernel
theorem dX11_through_32 : decode cX11_through 32 = .ok (.getfield 88, 3) := by decide +kernel
theorem dX11_through_35 : decode cX11_through 35 = .ok (.getfield 109, 3) := by decide +kernel
theorem dX11_through_38 : decode cX11_through 38 = .ok (.invokevirtual 113, 3) := by decide +kernel
theorem dX11_through_41 : decode cX11_through 41 = .ok (.if_icmp .ge 38, 3) := by decide +kernel
theorem dX11_through_44 : decode cX11_through 44 = .ok (.aload_n 0, 1) := by decide +kernel
theorem dX11_through_45 : decode cX11_through 45 = .ok (.getfield 88, 3) := by decide +kernel
theorem dX11_through_48 : decode cX11_through 48 = .ok (.iload_n 2, 1) := by decide +kernel
theorem dX11_through_49 : decode cX11_through 49 = .ok (.iload_n 2, 1) := by decide +kernel
theorem dX11_through_50 : decode cX11_through 50 = .ok (.iconst 1, 1) := by decide +kernel
theorem dX11_through_51 : decode cX11_through 51 = .ok (.iadd, 1) := by decide +kernel
theorem dX11_through_52 : decode cX11_through 52 = .ok (.iload_n 1, 1) := by decide +kernel
theorem dX11_through_53 : decode cX11_through 53 = .ok (.invokevirtual 174, 3) := by decide +kernel
theorem dX11_through_56 : decode cX11_through 56 = .ok (.istore_n 1, 1) := by decide +kernel
theorem dX11_through_57 : decode cX11_through 57 = .ok (.iload_n 1, 1) := by decide +kernel
theorem dX11_through_58 : decode cX11_through 58 = .ok (.invokestatic 193, 3) := by decide +kernel
theorem dX11_through_61 : decode cX11_through 61 = .ok (.aload_n 0, 1) := by decide +kernel
theorem dX11_through_62 : decode cX11_through 62 = .ok (.getfield 88, 3) := by decide +kernel
theorem dX11_through_65 : decode cX11_through 65 = .ok (.getfield 190, 3) := by decide +kernel
theorem dX11_through_68 : decode cX11_through 68 = .ok (.if_icmp .gt 5, 3) := by decide +kernel
theorem dX11_through_71 : decode cX11_through 71 = .ok (.iload_n 2, 1) := by decide +kernel
theorem dX11_through_72 : decode cX11_through 72 = .ok (.ireturn, 1) := by decide +kernel
theorem dX11_through_73 : decode cX11_through 73 = .ok (.iinc 2 1, 3) := by decide +kernel
theorem dX11_through_76 : decode cX11_through 76 = .ok (.goto (-46), 3) := by decide +kernel
theorem dX11_through_79 : decode cX11_through 79 = .ok (.iconst (-1), 1) := by decide +kernel
theorem dX11_through_80 : decode cX11_through 80 = .ok (.ireturn, 1) := by decide +kernel
set_option maxRecDepth 20000 in
theorem ggX11_behind_X11_isHigh : GoodIn wsX11_behind wsX11_isHigh := goodIn_r _ [9, 10, 11, 8, 12] (by decide +kernel) (by decide +kernel)
set_option maxRecDepth 20000 in
theorem gX11_behind_X11_isHigh : GoodIn wsX11_behind (va_wsS RX11 196 yX11_isHigh wsX11_isHigh) := goodIn_app (goodIn_of _ (by decide +kernel)) ggX11_behind_X11_isHigh
set_option maxRecDepth 20000 in
theorem ggX11_behind_X11_within : GoodIn wsX11_behind wsX11_within := goodIn_r _ [12] (by decide +kernel) (by decide +kernel)
set_option maxRecDepth 20000 in
theorem gX11_behind_X11_within : GoodIn wsX11_behind (va_wsS RX11 130 yX11_within wsX11_within) := goodIn_app (goodIn_of _ (by decide +kernel)) ggX11_behind_X11_within
set_option maxRecDepth 20000 in
theorem ggX11_behind_X11_counted : GoodIn wsX11_behind wsX11_counted := goodIn_r _ [16, 17, 18, 19, 105, 106, 107, 108, 109, 110, 111, 112, 113, 114, 115, 116, 117, 118, 119] (by decide +kernel) (by decide +kernel)
set_option maxRecDepth 20000 in
theorem gX11_behind_X11_counted : GoodIn wsX11_behind (wsV RX11 99 RX11 yX11_counted wsX11_counted) := goodIn_app (goodIn_of _ (by decide +kernel)) ggX11_behind_X11_counted
set_option maxRecDepth 20000 in
theorem ggX11_behind_X7_size : GoodIn wsX11_behind wsX7_size := goodIn_r _ [24, 25, 127, 128, 129, 130] (by decide +kernel) (by decide +kernel)
set_option maxRecDepth 20000 in
theorem gX11_behind_X7_size : GoodIn wsX11_behind (wsV RX11 113 RX7 yX7_size wsX7_size) := goodIn_app (goodIn_of _ (by decide +kernel)) ggX11_behind_X7_size
set_option maxRecDepth 20000 in
theorem ggX11_behind_X5_deed : GoodIn wsX11_behind wsX5_deed := goodIn_r _ [30, 31, 32, 33, 34, 35, 23, 36, 37, 38, 39, 40, 41, 42, 43, 44, 45, 46, 47, 48, 49, 50, 51, 52, 53, 54, 55, 56, 57, 58, 59, 60, 61, 62, 63, 64, 65, 66, 67, 68, 69, 70, 71, 72, 73, 74, 75, 76, 77, 78, 79, 80, 81, 82, 83, 84, 85, 86, 87, 88, 89, 90, 91, 92, 93, 94, 95, 96, 97, 98, 99, 100, 101, 102, 103, 104, 120, 121, 122, 123, 124, 125, 126, 127, 128, 129, 130] (by decide +kernel) (by decide +kernel)
set_option maxRecDepth 20000 in
theorem gX11_behind_X5_deed : GoodIn wsX11_behind (wsV RX11 199 RX5 yX5_deed wsX5_deed) := goodIn_app (goodIn_of _ (by decide +kernel)) ggX11_behind_X5_deed
theorem dX11_behind_0 : decode cX11_behind 0 = .ok (.iload_n 1, 1) := by decide +kernel
theorem dX11_behind_1 : decode cX11_behind 1 = .ok (.invokestatic 196, 3) := by decide +kernel
theorem dX11_behind_4 : decode cX11_behind 4 = .ok (.ifCond .eq 12, 3) := by decide +kernel
theorem dX11_behind_7 : decode cX11_behind 7 = .ok (.iload_n 2, 1) := by decide +kernel
theorem dX11_behind_8 : decode cX11_behind 8 = .ok (.iconst 0, 1) := by decide +kernel
theorem dX11_behind_9 : decode cX11_behind 9 = .ok (.iconst 1, 1) := by decide +kernel
theorem dX11_behind_10 : decode cX11_behind 10 = .ok (.invokestatic 130, 3) := by decide +kernel
theorem dX11_behind_13 : decode cX11_behind 13 = .ok (.ifCond .ne 10, 3) := by decide +kernel
theorem dX11_behind_16 : decode cX11_behind 16 = .ok (.aload_n 0, 1) := by decide +kernel
theorem dX11_behind_17 : decode cX11_behind 17 = .ok (.bipush (-2), 2) := by decide +kernel
theorem dX11_behind_19 : decode cX11_behind 19 = .ok (.invokevirtual 99, 3) := by decide +kernel
theorem dX11_behind_22 : decode cX11_behind 22 = .ok (.ireturn, 1) := by decide +kernel
theorem dX11_behind_23 : decode cX11_behind 23 = .ok (.aload_n 0, 1) := by decide +kernel
theorem dX11_behind_24 : decode cX11_behind 24 = .ok (.getfield 88, 3) := by decide +kernel
theorem dX11_behind_27 : decode cX11_behind 27 = .ok (.getfield 187, 3) := by decide +kernel
theorem dX11_behind_30 : decode cX11_behind 30 = .ok (.istore_n 3, 1) := by decide +kernel
theorem dX11_behind_31 : decode cX11_behind 31 = .ok (.iload_n 1, 1) := by decide +kernel
theorem dX11_behind_32 : decode cX11_behind 32 = .ok (.istore 4, 2) := by decide +kernel
theorem dX11_behind_34 : decode cX11_behind 34 = .ok (.iconst 0, 1) := by decide +kernel
theorem dX11_behind_35 : decode cX11_behind 35 = .ok (.istore 5, 2) := by decide +kernel
theorem dX11_behind_37 : decode cX11_behind 37 = .ok (.iconst 0, 1) := by decide +kernel
theorem dX11_behind_38 : decode cX11_behind 38 = .ok (.istore 6, 2) := by decide +kernel
theorem dX11_behind_40 : decode cX11_behind 40 = .ok (.iload 6, 2) := by decide +kernel
theorem dX11_behind_42 : decode cX11_behind 42 = .ok (.aload_n 0, 1) := by decide +kernel
theorem dX11_behind_43 : decode cX11_behind 43 = .ok (.getfield 88, 3) := by decide +kernel
theorem dX11_behind_46 : decode cX11_behind 46 = .ok (.getfield 109, 3) := by decide +kernel
theorem dX11_behind_49 : decode cX11_behind 49 = .ok (.invokevirtual 113, 3) := by decide +kernel
theorem dX11_behind_52 : decode cX11_behind 52 = .ok (.if_icmp .ge 53, 3) := by decide +kernel
theorem dX11_behind_55 : decode cX11_behind 55 = .ok (.aload_n 0, 1) := by decide +kernel
theorem dX11_behind_56 : decode cX11_behind 56 = .ok (.getfield 88, 3) := by decide +kernel
theorem dX11_behind_59 : decode cX11_behind 59 = .ok (.iload 6, 2) := by decide +kernel
theorem dX11_behind_61 : decode cX11_behind 61 = .ok (.iload_n 3, 1) := by decide +kernel
theorem dX11_behind_62 : decode cX11_behind 62 = .ok (.iload 5, 2) := by decide +kernel
theorem dX11_behind_64 : decode cX11_behind 64 = .ok (.invokevirtual 199, 3) := by decide +kernel
theorem dX11_behind_67 : decode cX11_behind 67 = .ok (.istore 5, 2) := by decide +kernel
theorem dX11_behind_69 : decode cX11_behind 69 = .ok (.iload 5, 2) := by decide +kernel
theorem dX11_behind_71 : decode cX11_behind 71 = .ok (.ifCond .le 11, 3) := by decide +kernel
theorem dX11_behind_74 : decode cX11_behind 74 = .ok (.iload 4, 2) := by decide +kernel
theorem dX11_behind_76 : decode cX11_behind 76 = .ok (.ifCond .ne 6, 3) := by decide +kernel
theorem dX11_behind_79 : decode cX11_behind 79 = .ok (.iconst 0, 1) := by decide +kernel
theorem dX11_behind_80 : decode cX11_behind 80 = .ok (.istore 5, 2) := by decide +kernel
theorem dX11_behind_82 : decode cX11_behind 82 = .ok (.iload_n 3, 1) := by decide +kernel
theorem dX11_behind_83 : decode cX11_behind 83 = .ok (.iload 5, 2) := by decide +kernel
theorem dX11_behind_85 : decode cX11_behind 85 = .ok (.iadd, 1) := by decide +kernel
theorem dX11_behind_86 : decode cX11_behind 86 = .ok (.istore_n 3, 1) := by decide +kernel
theorem dX11_behind_87 : decode cX11_behind 87 = .ok (.bipush 30, 2) := by decide +kernel
theorem dX11_behind_89 : decode cX11_behind 89 = .ok (.iload 4, 2) := by decide +kernel
theorem dX11_behind_91 : decode cX11_behind 91 = .ok (.iload 5, 2) := by decide +kernel
theorem dX11_behind_93 : decode cX11_behind 93 = .ok (.isub, 1) := by decide +kernel
theorem dX11_behind_94 : decode cX11_behind 94 = .ok (.invokestatic 202, 3) := by decide +kernel
theorem dX11_behind_97 : decode cX11_behind 97 = .ok (.istore 4, 2) := by decide +kernel
theorem dX11_behind_99 : decode cX11_behind 99 = .ok (.iinc 6 1, 3) := by decide +kernel
theorem dX11_behind_102 : decode cX11_behind 102 = .ok (.goto (-62), 3) := by decide +kernel
theorem dX11_behind_105 : decode cX11_behind 105 = .ok (.iload_n 2, 1) := by decide +kernel
theorem dX11_behind_106 : decode cX11_behind 106 = .ok (.ifCond .ne 7, 3) := by decide +kernel
theorem dX11_behind_109 : decode cX11_behind 109 = .ok (.iload_n 3, 1) := by decide +kernel
theorem dX11_behind_110 : decode cX11_behind 110 = .ok (.goto 5, 3) := by decide +kernel
theorem dX11_behind_113 : decode cX11_behind 113 = .ok (.iload 4, 2) := by decide +kernel
theorem dX11_behind_115 : decode cX11_behind 115 = .ok (.ireturn, 1) := by decide +kernel
set_option maxRecDepth 20000 in
theorem ggX11_may_X11_isMinute : GoodIn wsX11_may wsX11_isMinute := goodIn_r _ [9, 10, 11, 8, 12] (by decide +kernel) (by decide +kernel)
set_option maxRecDepth 20000 in
theorem gX11_may_X11_isMinute : GoodIn wsX11_may (va_wsS RX11 162 yX11_isMinute wsX11_isMinute) := goodIn_app (goodIn_of _ (by decide +kernel)) ggX11_may_X11_isMinute
set_option maxRecDepth 20000 in
theorem ggX11_may_X11_isHigh : GoodIn wsX11_may wsX11_isHigh := goodIn_r _ [15, 10, 11, 8, 12] (by decide +kernel) (by decide +kernel)
set_option maxRecDepth 20000 in
theorem gX11_may_X11_isHigh : GoodIn wsX11_may (va_wsS RX11 196 yX11_isHigh wsX11_isHigh) := goodIn_app (goodIn_of _ (by decide +kernel)) ggX11_may_X11_isHigh
set_option maxRecDepth 20000 in
theorem ggX11_may_X11_within : GoodIn wsX11_may wsX11_within := goodIn_r _ [12] (by decide +kernel) (by decide +kernel)
set_option maxRecDepth 20000 in
theorem gX11_may_X11_within : GoodIn wsX11_may (va_wsS RX11 130 yX11_within wsX11_within) := goodIn_app (goodIn_of _ (by decide +kernel)) ggX11_may_X11_within
set_option maxRecDepth 20000 in
theorem ggX11_may_X11_counted : GoodIn wsX11_may wsX11_counted := goodIn_r _ [19, 20, 21, 22, 132, 133, 134, 135, 136, 137, 138, 139, 140, 141, 142, 143, 144, 145, 146] (by decide +kernel) (by decide +kernel)
set_option maxRecDepth 20000 in
theorem gX11_may_X11_counted : GoodIn wsX11_may (wsV RX11 99 RX11 yX11_counted wsX11_counted) := goodIn_app (goodIn_of _ (by decide +kernel)) ggX11_may_X11_counted
set_option maxRecDepth 20000 in
theorem ggX11_may_X5_highIn : GoodIn wsX11_may wsX5_highIn := goodIn_r _ [27, 28, 29, 30, 26, 31, 32, 33, 34, 35, 36, 37, 38, 39, 40, 41, 42, 43, 44, 45, 46, 47, 48, 49, 50, 8, 51, 52, 53, 54, 55, 56, 57, 58, 59, 60, 61, 62, 63, 64, 65, 66, 67, 68, 69, 70, 71, 72, 73, 74, 75, 76, 77, 78, 79, 80, 81, 82, 83, 84, 85, 86, 87, 88, 89, 90, 91, 92, 93, 94, 95, 96, 97, 98, 99, 100, 101, 102, 103, 104, 105, 106, 107, 108, 109, 110, 111, 112, 113, 114, 115, 116, 117, 118, 119, 120, 121, 122, 123, 124, 125, 126, 127, 128, 129, 130, 147, 148, 149, 150, 151, 152, 153, 154, 155, 156, 157] (by decide +kernel) (by decide +kernel)
set_option maxRecDepth 20000 in
theorem gX11_may_X5_highIn : GoodIn wsX11_may (wsV RX11 165 RX5 yX5_highIn wsX5_highIn) := goodIn_app (goodIn_of _ (by decide +kernel)) ggX11_may_X5_highIn
set_option maxRecDepth 20000 in
theorem ggX11_may_X5_passedUntil : GoodIn wsX11_may wsX5_passedUntil := goodIn_r _ [31, 32, 33, 34, 35, 36, 37, 38, 39, 40, 41, 42, 43, 44, 147, 148, 149, 150, 151, 152, 153, 154, 155, 156, 157] (by decide +kernel) (by decide +kernel)
set_option maxRecDepth 20000 in
theorem gX11_may_X5_passedUntil : GoodIn wsX11_may (wsV RX11 210 RX5 yX5_passedUntil wsX5_passedUntil) := goodIn_app (goodIn_of _ (by decide +kernel)) ggX11_may_X5_passedUntil
theorem dX11_may_0 : decode cX11_may 0 = .ok (.iload_n 1, 1) := by decide +kernel
theorem dX11_may_1 : decode cX11_may 1 = .ok (.invokestatic 162, 3) := by decide +kernel
theorem dX11_may_4 : decode cX11_may 4 = .ok (.ifCond .eq 19, 3) := by decide +kernel
theorem dX11_may_7 : decode cX11_may 7 = .ok (.iload_n 2, 1) := by decide +kernel
theorem dX11_may_8 : decode cX11_may 8 = .ok (.invokestatic 196, 3) := by decide +kernel
theorem dX11_may_11 : decode cX11_may 11 = .ok (.ifCond .eq 12, 3) := by decide +kernel
theorem dX11_may_14 : decode cX11_may 14 = .ok (.iload_n 3, 1) := by decide +kernel
theorem dX11_may_15 : decode cX11_may 15 = .ok (.iconst 0, 1) := by decide +kernel
theorem dX11_may_16 : decode cX11_may 16 = .ok (.iconst 1, 1) := by decide +kernel
theorem dX11_may_17 : decode cX11_may 17 = .ok (.invokestatic 130, 3) := by decide +kernel
theorem dX11_may_20 : decode cX11_may 20 = .ok (.ifCond .ne 10, 3) := by decide +kernel
theorem dX11_may_23 : decode cX11_may 23 = .ok (.aload_n 0, 1) := by decide +kernel
theorem dX11_may_24 : decode cX11_may 24 = .ok (.bipush (-2), 2) := by decide +kernel
theorem dX11_may_26 : decode cX11_may 26 = .ok (.invokevirtual 99, 3) := by decide +kernel
theorem dX11_may_29 : decode cX11_may 29 = .ok (.ireturn, 1) := by decide +kernel
theorem dX11_may_30 : decode cX11_may 30 = .ok (.aload_n 0, 1) := by decide +kernel
theorem dX11_may_31 : decode cX11_may 31 = .ok (.getfield 88, 3) := by decide +kernel
theorem dX11_may_34 : decode cX11_may 34 = .ok (.iload_n 1, 1) := by decide +kernel
theorem dX11_may_35 : decode cX11_may 35 = .ok (.invokevirtual 165, 3) := by decide +kernel
theorem dX11_may_38 : decode cX11_may 38 = .ok (.iload_n 2, 1) := by decide +kernel
theorem dX11_may_39 : decode cX11_may 39 = .ok (.isub, 1) := by decide +kernel
theorem dX11_may_40 : decode cX11_may 40 = .ok (.invokestatic 207, 3) := by decide +kernel
theorem dX11_may_43 : decode cX11_may 43 = .ok (.istore 4, 2) := by decide +kernel
theorem dX11_may_45 : decode cX11_may 45 = .ok (.iload_n 3, 1) := by decide +kernel
theorem dX11_may_46 : decode cX11_may 46 = .ok (.iconst 1, 1) := by decide +kernel
theorem dX11_may_47 : decode cX11_may 47 = .ok (.if_icmp .ne 6, 3) := by decide +kernel
theorem dX11_may_50 : decode cX11_may 50 = .ok (.iload 4, 2) := by decide +kernel
theorem dX11_may_52 : decode cX11_may 52 = .ok (.ireturn, 1) := by decide +kernel
theorem dX11_may_53 : decode cX11_may 53 = .ok (.iload 4, 2) := by decide +kernel
theorem dX11_may_55 : decode cX11_may 55 = .ok (.ifCond .ne 7, 3) := by decide +kernel
theorem dX11_may_58 : decode cX11_may 58 = .ok (.iconst (-1), 1) := by decide +kernel
theorem dX11_may_59 : decode cX11_may 59 = .ok (.goto 13, 3) := by decide +kernel
theorem dX11_may_62 : decode cX11_may 62 = .ok (.aload_n 0, 1) := by decide +kernel
theorem dX11_may_63 : decode cX11_may 63 = .ok (.getfield 88, 3) := by decide +kernel
theorem dX11_may_66 : decode cX11_may 66 = .ok (.iload_n 1, 1) := by decide +kernel
theorem dX11_may_67 : decode cX11_may 67 = .ok (.invokevirtual 210, 3) := by decide +kernel
theorem dX11_may_70 : decode cX11_may 70 = .ok (.iconst 1, 1) := by decide +kernel
theorem dX11_may_71 : decode cX11_may 71 = .ok (.isub, 1) := by decide +kernel
theorem dX11_may_72 : decode cX11_may 72 = .ok (.ireturn, 1) := by decide +kernel
set_option maxRecDepth 20000 in
theorem ggX11_advice_X7_has : GoodIn wsX11_advice wsX7_has := goodIn_r _ [6, 7, 158, 159, 160, 161] (by decide +kernel) (by decide +kernel)
set_option maxRecDepth 20000 in
theorem gX11_advice_X7_has : GoodIn wsX11_advice (wsV RX11 126 RX7 yX7_has wsX7_has) := goodIn_app (goodIn_of _ (by decide +kernel)) ggX11_advice_X7_has
set_option maxRecDepth 20000 in
theorem ggX11_advice_X11_isMinute : GoodIn wsX11_advice wsX11_isMinute := goodIn_r _ [11, 12, 13, 10, 14] (by decide +kernel) (by decide +kernel)
set_option maxRecDepth 20000 in
theorem gX11_advice_X11_isMinute : GoodIn wsX11_advice (va_wsS RX11 162 yX11_isMinute wsX11_isMinute) := goodIn_app (goodIn_of _ (by decide +kernel)) ggX11_advice_X11_isMinute
set_option maxRecDepth 20000 in
theorem ggX11_advice_X11_isHigh : GoodIn wsX11_advice wsX11_isHigh := goodIn_r _ [17, 12, 13, 10, 14] (by decide +kernel) (by decide +kernel)
set_option maxRecDepth 20000 in
theorem gX11_advice_X11_isHigh : GoodIn wsX11_advice (va_wsS RX11 196 yX11_isHigh wsX11_isHigh) := goodIn_app (goodIn_of _ (by decide +kernel)) ggX11_advice_X11_isHigh
set_option maxRecDepth 20000 in
theorem ggX11_advice_X7_at : GoodIn wsX11_advice wsX7_at := goodIn_r _ [21, 22, 23, 158, 159, 160, 161] (by decide +kernel) (by decide +kernel)
set_option maxRecDepth 20000 in
theorem gX11_advice_X7_at : GoodIn wsX11_advice (wsV RX11 184 RX7 yX7_at wsX7_at) := goodIn_app (goodIn_of _ (by decide +kernel)) ggX11_advice_X7_at
set_option maxRecDepth 20000 in
theorem ggX11_advice_X11_badAs : GoodIn wsX11_advice wsX11_badAs := goodIn_r _ [27, 28, 136, 137, 138, 139, 140, 141, 142, 143, 144, 145, 146, 147, 148, 149, 150] (by decide +kernel) (by decide +kernel)
set_option maxRecDepth 20000 in
theorem gX11_advice_X11_badAs : GoodIn wsX11_advice (wsV RX11 168 RX11 yX11_badAs wsX11_badAs) := goodIn_app (goodIn_of _ (by decide +kernel)) ggX11_advice_X11_badAs
set_option maxRecDepth 20000 in
theorem ggX11_advice_X5_firstStand : GoodIn wsX11_advice wsX5_firstStand := goodIn_r _ [33, 34, 35, 10, 36, 151, 152, 153, 154, 155, 156, 157] (by decide +kernel) (by decide +kernel)
set_option maxRecDepth 20000 in
theorem gX11_advice_X5_firstStand : GoodIn wsX11_advice (wsV RX11 171 RX5 yX5_firstStand wsX5_firstStand) := goodIn_app (goodIn_of _ (by decide +kernel)) ggX11_advice_X5_firstStand
set_option maxRecDepth 20000 in
theorem ggX11_advice_X5_walk : GoodIn wsX11_advice wsX5_walk := goodIn_r _ [40, 41, 10, 42, 43, 44, 45, 46, 47, 32, 48, 49, 50, 51, 19, 20, 5, 21, 22, 23, 52, 53, 54, 55, 56, 57, 58, 59, 60, 61, 62, 63, 64, 65, 66, 67, 68, 69, 70, 71, 72, 73, 74, 75, 76, 77, 78, 79, 80, 81, 82, 83, 84, 85, 86, 87, 88, 89, 90, 91, 92, 93, 94, 95, 96, 97, 98, 99, 100, 101, 102, 103, 104, 105, 106, 107, 108, 109, 110, 111, 112, 113, 114, 115, 116, 117, 35, 36, 151, 152, 153, 154, 155, 156, 157, 158, 159, 160, 161] (by decide +kernel) (by decide +kernel)
set_option maxRecDepth 20000 in
theorem gX11_advice_X5_walk : GoodIn wsX11_advice (wsV RX11 174 RX5 yX5_walk wsX5_walk) := goodIn_app (goodIn_of _ (by decide +kernel)) ggX11_advice_X5_walk
set_option maxRecDepth 20000 in
theorem ggX11_advice_X11_highOf : GoodIn wsX11_advice wsX11_highOf := goodIn_r _ [42] (by decide +kernel) (by decide +kernel)
set_option maxRecDepth 20000 in
theorem gX11_advice_X11_highOf : GoodIn wsX11_advice (va_wsS RX11 193 yX11_highOf wsX11_highOf) := goodIn_app (goodIn_of _ (by decide +kernel)) ggX11_advice_X11_highOf
set_option maxRecDepth 20000 in
theorem ggX11_advice_X5_passedUntil : GoodIn wsX11_advice wsX5_passedUntil := goodIn_r _ [122, 49, 123, 124, 125, 5, 126, 7, 51, 19, 20, 21, 22, 23, 151, 152, 153, 154, 155, 156, 157, 158, 159, 160, 161] (by decide +kernel) (by decide +kernel)
set_option maxRecDepth 20000 in
theorem gX11_advice_X5_passedUntil : GoodIn wsX11_advice (wsV RX11 210 RX5 yX5_passedUntil wsX5_passedUntil) := goodIn_app (goodIn_of _ (by decide +kernel)) ggX11_advice_X5_passedUntil
set_option maxRecDepth 20000 in
theorem ggX11_advice_X11_stand : GoodIn wsX11_advice wsX11_stand := goodIn_r _ [36] (by decide +kernel) (by decide +kernel)
set_option maxRecDepth 20000 in
theorem gX11_advice_X11_stand : GoodIn wsX11_advice (va_wsS RX11 213 yX11_stand wsX11_stand) := goodIn_app (goodIn_of _ (by decide +kernel)) ggX11_advice_X11_stand
set_option maxRecDepth 20000 in
theorem ggX11_advice_X11_farBehind : GoodIn wsX11_advice wsX11_farBehind := goodIn_r _ [131, 1, 132, 133, 134, 135, 37, 38, 39, 32, 40, 41, 10, 42, 43, 44, 45, 46, 47, 48, 49, 50, 51, 19, 20, 5, 21, 22, 23, 52, 53, 54, 55, 56, 57, 58, 59, 60, 61, 62, 63, 64, 65, 66, 67, 68, 69, 70, 71, 72, 73, 74, 75, 76, 77, 78, 79, 80, 81, 82, 83, 84, 85, 86, 87, 88, 89, 90, 91, 92, 93, 94, 95, 96, 97, 98, 99, 100, 101, 102, 103, 104, 105, 106, 107, 108, 109, 110, 111, 112, 113, 114, 115, 116, 117, 35, 36, 118, 136, 137, 138, 139, 140, 141, 142, 143, 144, 145, 146, 147, 148, 149, 150, 151, 152, 153, 154, 155, 156, 157, 158, 159, 160, 161] (by decide +kernel) (by decide +kernel)
set_option maxRecDepth 20000 in
theorem gX11_advice_X11_farBehind : GoodIn wsX11_advice (wsV RX11 216 RX11 yX11_farBehind wsX11_farBehind) := goodIn_app (goodIn_of _ (by decide +kernel)) ggX11_advice_X11_farBehind
theorem dX11_advice_0 : decode cX11_advice 0 = .ok (.aload_n 0, 1) := by decide +kernel
theorem dX11_advice_1 : decode cX11_advice 1 = .ok (.getfield 88, 3) := by decide +kernel
theorem dX11_advice_4 : decode cX11_advice 4 = .ok (.getfield 109, 3) := by decide +kernel
theorem dX11_advice_7 : decode cX11_advice 7 = .ok (.iload_n 1, 1) := by decide +kernel
theorem dX11_advice_8 : decode cX11_advice 8 = .ok (.invokevirtual 126, 3) := by decide +kernel
theorem dX11_advice_11 : decode cX11_advice 11 = .ok (.ifCond .eq 33, 3) := by decide +kernel
theorem dX11_advice_14 : decode cX11_advice 14 = .ok (.iload_n 2, 1) := by decide +kernel
theorem dX11_advice_15 : decode cX11_advice 15 = .ok (.invokestatic 162, 3) := by decide +kernel
theorem dX11_advice_18 : decode cX11_advice 18 = .ok (.ifCond .eq 26, 3) := by decide +kernel
theorem dX11_advice_21 : decode cX11_advice 21 = .ok (.iload_n 3, 1) := by decide +kernel
theorem dX11_advice_22 : decode cX11_advice 22 = .ok (.invokestatic 196, 3) := by decide +kernel
theorem dX11_advice_25 : decode cX11_advice 25 = .ok (.ifCond .eq 19, 3) := by decide +kernel
theorem dX11_advice_28 : decode cX11_advice 28 = .ok (.iload_n 2, 1) := by decide +kernel
theorem dX11_advice_29 : decode cX11_advice 29 = .ok (.aload_n 0, 1) := by decide +kernel
theorem dX11_advice_30 : decode cX11_advice 30 = .ok (.getfield 88, 3) := by decide +kernel
theorem dX11_advice_33 : decode cX11_advice 33 = .ok (.getfield 109, 3) := by decide +kernel
theorem dX11_advice_36 : decode cX11_advice 36 = .ok (.iload_n 1, 1) := by decide +kernel
theorem dX11_advice_37 : decode cX11_advice 37 = .ok (.iconst 0, 1) := by decide +kernel
theorem dX11_advice_38 : decode cX11_advice 38 = .ok (.invokevirtual 184, 3) := by decide +kernel
theorem dX11_advice_41 : decode cX11_advice 41 = .ok (.if_icmp .ge 10, 3) := by decide +kernel
theorem dX11_advice_44 : decode cX11_advice 44 = .ok (.aload_n 0, 1) := by decide +kernel
theorem dX11_advice_45 : decode cX11_advice 45 = .ok (.bipush (-10), 2) := by decide +kernel
theorem dX11_advice_47 : decode cX11_advice 47 = .ok (.invokevirtual 168, 3) := by decide +kernel
theorem dX11_advice_50 : decode cX11_advice 50 = .ok (.ireturn, 1) := by decide +kernel
theorem dX11_advice_51 : decode cX11_advice 51 = .ok (.aload_n 0, 1) := by decide +kernel
theorem dX11_advice_52 : decode cX11_advice 52 = .ok (.getfield 88, 3) := by decide +kernel
theorem dX11_advice_55 : decode cX11_advice 55 = .ok (.iconst 0, 1) := by decide +kernel
theorem dX11_advice_56 : decode cX11_advice 56 = .ok (.iload_n 1, 1) := by decide +kernel
theorem dX11_advice_57 : decode cX11_advice 57 = .ok (.aload_n 0, 1) := by decide +kernel
theorem dX11_advice_58 : decode cX11_advice 58 = .ok (.getfield 88, 3) := by decide +kernel
theorem dX11_advice_61 : decode cX11_advice 61 = .ok (.invokevirtual 171, 3) := by decide +kernel
theorem dX11_advice_64 : decode cX11_advice 64 = .ok (.invokevirtual 174, 3) := by decide +kernel
theorem dX11_advice_67 : decode cX11_advice 67 = .ok (.invokestatic 193, 3) := by decide +kernel
theorem dX11_advice_70 : decode cX11_advice 70 = .ok (.istore 4, 2) := by decide +kernel
theorem dX11_advice_72 : decode cX11_advice 72 = .ok (.aload_n 0, 1) := by decide +kernel
theorem dX11_advice_73 : decode cX11_advice 73 = .ok (.getfield 88, 3) := by decide +kernel
theorem dX11_advice_76 : decode cX11_advice 76 = .ok (.iload_n 2, 1) := by decide +kernel
theorem dX11_advice_77 : decode cX11_advice 77 = .ok (.invokevirtual 210, 3) := by decide +kernel
theorem dX11_advice_80 : decode cX11_advice 80 = .ok (.istore 5, 2) := by decide +kernel
theorem dX11_advice_82 : decode cX11_advice 82 = .ok (.iconst 0, 1) := by decide +kernel
theorem dX11_advice_83 : decode cX11_advice 83 = .ok (.istore 6, 2) := by decide +kernel
theorem dX11_advice_85 : decode cX11_advice 85 = .ok (.aload_n 0, 1) := by decide +kernel
theorem dX11_advice_86 : decode cX11_advice 86 = .ok (.iload_n 1, 1) := by decide +kernel
theorem dX11_advice_87 : decode cX11_advice 87 = .ok (.iload 5, 2) := by decide +kernel
theorem dX11_advice_89 : decode cX11_advice 89 = .ok (.iload 4, 2) := by decide +kernel
theorem dX11_advice_91 : decode cX11_advice 91 = .ok (.iconst 0, 1) := by decide +kernel
theorem dX11_advice_92 : decode cX11_advice 92 = .ok (.invokestatic 213, 3) := by decide +kernel
theorem dX11_advice_95 : decode cX11_advice 95 = .ok (.iload_n 3, 1) := by decide +kernel
theorem dX11_advice_96 : decode cX11_advice 96 = .ok (.invokevirtual 216, 3) := by decide +kernel
theorem dX11_advice_99 : decode cX11_advice 99 = .ok (.istore 7, 2) := by decide +kernel
theorem dX11_advice_101 : decode cX11_advice 101 = .ok (.iconst (-1), 1) := by decide +kernel
theorem dX11_advice_102 : decode cX11_advice 102 = .ok (.istore 8, 2) := by decide +kernel
theorem dX11_advice_104 : decode cX11_advice 104 = .ok (.iload 8, 2) := by decide +kernel
theorem dX11_advice_106 : decode cX11_advice 106 = .ok (.iconst 1, 1) := by decide +kernel
theorem dX11_advice_107 : decode cX11_advice 107 = .ok (.if_icmp .gt 55, 3) := by decide +kernel
theorem dX11_advice_110 : decode cX11_advice 110 = .ok (.iload 4, 2) := by decide +kernel
theorem dX11_advice_112 : decode cX11_advice 112 = .ok (.iload 8, 2) := by decide +kernel
theorem dX11_advice_114 : decode cX11_advice 114 = .ok (.iadd, 1) := by decide +kernel
theorem dX11_advice_115 : decode cX11_advice 115 = .ok (.invokestatic 196, 3) := by decide +kernel
theorem dX11_advice_118 : decode cX11_advice 118 = .ok (.ifCond .eq 38, 3) := by decide +kernel
theorem dX11_advice_121 : decode cX11_advice 121 = .ok (.aload_n 0, 1) := by decide +kernel
theorem dX11_advice_122 : decode cX11_advice 122 = .ok (.iload_n 1, 1) := by decide +kernel
theorem dX11_advice_123 : decode cX11_advice 123 = .ok (.iload 5, 2) := by decide +kernel
theorem dX11_advice_125 : decode cX11_advice 125 = .ok (.iload 4, 2) := by decide +kernel
theorem dX11_advice_127 : decode cX11_advice 127 = .ok (.iload 8, 2) := by decide +kernel
theorem dX11_advice_129 : decode cX11_advice 129 = .ok (.iadd, 1) := by decide +kernel
theorem dX11_advice_130 : decode cX11_advice 130 = .ok (.iload 8, 2) := by decide +kernel
theorem dX11_advice_132 : decode cX11_advice 132 = .ok (.invokestatic 213, 3) := by decide +kernel
theorem dX11_advice_135 : decode cX11_advice 135 = .ok (.iload_n 3, 1) := by decide +kernel
theorem dX11_advice_136 : decode cX11_advice 136 = .ok (.invokevirtual 216, 3) := by decide +kernel
theorem dX11_advice_139 : decode cX11_advice 139 = .ok (.istore 9, 2) := by decide +kernel
theorem dX11_advice_141 : decode cX11_advice 141 = .ok (.iload 9, 2) := by decide +kernel
theorem dX11_advice_143 : decode cX11_advice 143 = .ok (.iload 7, 2) := by decide +kernel
theorem dX11_advice_145 : decode cX11_advice 145 = .ok (.if_icmp .ge 11, 3) := by decide +kernel
theorem dX11_advice_148 : decode cX11_advice 148 = .ok (.iload 8, 2) := by decide +kernel
theorem dX11_advice_150 : decode cX11_advice 150 = .ok (.istore 6, 2) := by decide +kernel
theorem dX11_advice_152 : decode cX11_advice 152 = .ok (.iload 9, 2) := by decide +kernel
theorem dX11_advice_154 : decode cX11_advice 154 = .ok (.istore 7, 2) := by decide +kernel
theorem dX11_advice_156 : decode cX11_advice 156 = .ok (.iinc 8 2, 3) := by decide +kernel
theorem dX11_advice_159 : decode cX11_advice 159 = .ok (.goto (-55), 3) := by decide +kernel
theorem dX11_advice_162 : decode cX11_advice 162 = .ok (.iload 6, 2) := by decide +kernel
theorem dX11_advice_164 : decode cX11_advice 164 = .ok (.ireturn, 1) := by decide +kernel
set_option maxRecDepth 20000 in
theorem ggX11_check_X5_addCheck : GoodIn wsX11_check wsX5_addCheck := goodIn_r _ [6, 7, 8, 9, 10, 11, 12, 13, 14, 15, 16, 17, 18, 19, 20, 21, 22, 23, 24, 25, 26, 27, 28, 29, 30, 31, 32, 33, 34, 35, 36, 37, 38, 39, 40, 63, 64, 65, 66, 67, 68, 69, 70, 71, 72, 73] (by decide +kernel) (by decide +kernel)
set_option maxRecDepth 20000 in
theorem gX11_check_X5_addCheck : GoodIn wsX11_check (wsV RX11 219 RX5 yX5_addCheck wsX5_addCheck) := goodIn_app (goodIn_of _ (by decide +kernel)) ggX11_check_X5_addCheck
set_option maxRecDepth 20000 in
theorem ggX11_check_X11_counted : GoodIn wsX11_check wsX11_counted := goodIn_r _ [44, 45, 46, 47, 48, 49, 50, 51, 52, 53, 54, 55, 56, 57, 58, 59, 60, 61, 62] (by decide +kernel) (by decide +kernel)
set_option maxRecDepth 20000 in
theorem gX11_check_X11_counted : GoodIn wsX11_check (wsV RX11 99 RX11 yX11_counted wsX11_counted) := goodIn_app (goodIn_of _ (by decide +kernel)) ggX11_check_X11_counted
theorem dX11_check_0 : decode cX11_check 0 = .ok (.aload_n 0, 1) := by decide +kernel
theorem dX11_check_1 : decode cX11_check 1 = .ok (.aload_n 0, 1) := by decide +kernel
theorem dX11_check_2 : decode cX11_check 2 = .ok (.getfield 88, 3) := by decide +kernel
theorem dX11_check_5 : decode cX11_check 5 = .ok (.iload_n 1, 1) := by decide +kernel
theorem dX11_check_6 : decode cX11_check 6 = .ok (.iload_n 2, 1) := by decide +kernel
theorem dX11_check_7 : decode cX11_check 7 = .ok (.iload_n 3, 1) := by decide +kernel
theorem dX11_check_8 : decode cX11_check 8 = .ok (.invokevirtual 219, 3) := by decide +kernel
theorem dX11_check_11 : decode cX11_check 11 = .ok (.invokevirtual 99, 3) := by decide +kernel
theorem dX11_check_14 : decode cX11_check 14 = .ok (.ireturn, 1) := by decide +kernel
set_option maxRecDepth 20000 in
theorem ggX11_hired_X7_has : GoodIn wsX11_hired wsX7_has := goodIn_r _ [7, 8, 183, 184, 185, 186] (by decide +kernel) (by decide +kernel)
set_option maxRecDepth 20000 in
theorem gX11_hired_X7_has : GoodIn wsX11_hired (wsV RX11 126 RX7 yX7_has wsX7_has) := goodIn_app (goodIn_of _ (by decide +kernel)) ggX11_hired_X7_has
set_option maxRecDepth 20000 in
theorem ggX11_hired_X11_badAs : GoodIn wsX11_hired wsX11_badAs := goodIn_r _ [13, 14, 156, 157, 158, 159, 160, 161, 162, 163, 164, 165, 166, 167, 168, 169, 170] (by decide +kernel) (by decide +kernel)
set_option maxRecDepth 20000 in
theorem gX11_hired_X11_badAs : GoodIn wsX11_hired (wsV RX11 168 RX11 yX11_badAs wsX11_badAs) := goodIn_app (goodIn_of _ (by decide +kernel)) ggX11_hired_X11_badAs
set_option maxRecDepth 20000 in
theorem ggX11_hired_X3_weigh : GoodIn wsX11_hired wsX3_weigh := goodIn_r _ [19, 20, 21, 22, 23, 6, 24, 8, 25, 26, 18, 27, 28, 29, 30, 31, 32, 33, 34, 35, 36, 37, 38, 39, 40, 41, 42, 43, 44, 45, 46, 12, 47, 48, 49, 50, 51, 52, 53, 54, 55, 56, 57, 58, 59, 60, 61, 62, 63, 64, 65, 66, 67, 68, 69, 70, 71, 72, 73, 74, 75, 76, 77, 78, 79, 80, 81, 82, 83, 84, 85, 86, 87, 88, 89, 90, 91, 92, 93, 94, 95, 96, 97, 98, 99, 100, 101, 102, 103, 104, 105, 106, 107, 108, 109, 110, 111, 112, 113, 114, 115, 116, 117, 118, 119, 120, 121, 122, 123, 124, 125, 126, 127, 128, 129, 130, 131, 132, 133, 134, 135, 136, 137, 138, 139, 140, 171, 172, 173, 174, 175, 176, 177, 178, 179, 180, 181, 182, 183, 184, 185, 186] (by decide +kernel) (by decide +kernel)
set_option maxRecDepth 20000 in
theorem gX11_hired_X3_weigh : GoodIn wsX11_hired (wsV RX11 225 RX3 yX3_weigh wsX3_weigh) := goodIn_app (goodIn_of _ (by decide +kernel)) ggX11_hired_X3_weigh
set_option maxRecDepth 20000 in
theorem ggX11_hired_X3_follow : GoodIn wsX11_hired wsX3_follow := goodIn_r _ [144, 145, 146, 131, 127, 128, 129, 130, 147, 148, 149, 37, 150, 151, 121, 12, 122, 21, 22, 23, 6, 24, 8, 25, 26, 18, 27, 28, 29, 30, 31, 32, 33, 34, 35, 36, 38, 39, 40, 41, 42, 43, 44, 45, 46, 47, 48, 49, 50, 51, 52, 53, 54, 55, 56, 57, 58, 59, 60, 61, 62, 63, 64, 65, 66, 67, 68, 69, 70, 71, 72, 73, 74, 75, 76, 77, 78, 79, 80, 81, 82, 83, 84, 85, 86, 87, 88, 89, 90, 91, 92, 93, 94, 95, 96, 97, 98, 99, 100, 101, 102, 103, 104, 105, 106, 107, 108, 109, 110, 111, 112, 113, 114, 115, 116, 117, 118, 119, 120, 123, 124, 125, 126, 20, 132, 133, 134, 135, 136, 178, 179, 180, 181, 182, 171, 172, 173, 174, 175, 176, 177, 183, 184, 185, 186] (by decide +kernel) (by decide +kernel)
set_option maxRecDepth 20000 in
theorem gX11_hired_X3_follow : GoodIn wsX11_hired (wsV RX11 228 RX3 yX3_follow wsX3_follow) := goodIn_app (goodIn_of _ (by decide +kernel)) ggX11_hired_X3_follow
set_option maxRecDepth 20000 in
theorem ggX11_hired_X3_gainAt : GoodIn wsX11_hired wsX3_gainAt := goodIn_r _ [155, 146, 178, 179, 180, 181, 182] (by decide +kernel) (by decide +kernel)
set_option maxRecDepth 20000 in
theorem gX11_hired_X3_gainAt : GoodIn wsX11_hired (wsV RX11 234 RX3 yX3_gainAt wsX3_gainAt) := goodIn_app (goodIn_of _ (by decide +kernel)) ggX11_hired_X3_gainAt
theorem dX11_hired_0 : decode cX11_hired 0 = .ok (.iload_n 1, 1) := by decide +kernel
theorem dX11_hired_1 : decode cX11_hired 1 = .ok (.iconst (-1), 1) := by decide +kernel
theorem dX11_hired_2 : decode cX11_hired 2 = .ok (.if_icmp .eq 24, 3) := by decide +kernel
theorem dX11_hired_5 : decode cX11_hired 5 = .ok (.aload_n 0, 1) := by decide +kernel
theorem dX11_hired_6 : decode cX11_hired 6 = .ok (.getfield 88, 3) := by decide +kernel
theorem dX11_hired_9 : decode cX11_hired 9 = .ok (.getfield 222, 3) := by decide +kernel
theorem dX11_hired_12 : decode cX11_hired 12 = .ok (.iload_n 1, 1) := by decide +kernel
theorem dX11_hired_13 : decode cX11_hired 13 = .ok (.invokevirtual 126, 3) := by decide +kernel
theorem dX11_hired_16 : decode cX11_hired 16 = .ok (.ifCond .ne 10, 3) := by decide +kernel
theorem dX11_hired_19 : decode cX11_hired 19 = .ok (.aload_n 0, 1) := by decide +kernel
theorem dX11_hired_20 : decode cX11_hired 20 = .ok (.bipush (-100), 2) := by decide +kernel
theorem dX11_hired_22 : decode cX11_hired 22 = .ok (.invokevirtual 168, 3) := by decide +kernel
theorem dX11_hired_25 : decode cX11_hired 25 = .ok (.ireturn, 1) := by decide +kernel
theorem dX11_hired_26 : decode cX11_hired 26 = .ok (.aload_n 0, 1) := by decide +kernel
theorem dX11_hired_27 : decode cX11_hired 27 = .ok (.getfield 25, 3) := by decide +kernel
theorem dX11_hired_30 : decode cX11_hired 30 = .ok (.aload_n 0, 1) := by decide +kernel
theorem dX11_hired_31 : decode cX11_hired 31 = .ok (.getfield 88, 3) := by decide +kernel
theorem dX11_hired_34 : decode cX11_hired 34 = .ok (.invokevirtual 225, 3) := by decide +kernel
theorem dX11_hired_37 : decode cX11_hired 37 = .ok (.aload_n 0, 1) := by decide +kernel
theorem dX11_hired_38 : decode cX11_hired 38 = .ok (.getfield 25, 3) := by decide +kernel
theorem dX11_hired_41 : decode cX11_hired 41 = .ok (.aload_n 0, 1) := by decide +kernel
theorem dX11_hired_42 : decode cX11_hired 42 = .ok (.getfield 88, 3) := by decide +kernel
theorem dX11_hired_45 : decode cX11_hired 45 = .ok (.invokevirtual 228, 3) := by decide +kernel
theorem dX11_hired_48 : decode cX11_hired 48 = .ok (.iload_n 1, 1) := by decide +kernel
theorem dX11_hired_49 : decode cX11_hired 49 = .ok (.iconst (-1), 1) := by decide +kernel
theorem dX11_hired_50 : decode cX11_hired 50 = .ok (.if_icmp .ne 13, 3) := by decide +kernel
theorem dX11_hired_53 : decode cX11_hired 53 = .ok (.aload_n 0, 1) := by decide +kernel
theorem dX11_hired_54 : decode cX11_hired 54 = .ok (.getfield 25, 3) := by decide +kernel
theorem dX11_hired_57 : decode cX11_hired 57 = .ok (.getfield 231, 3) := by decide +kernel
theorem dX11_hired_60 : decode cX11_hired 60 = .ok (.goto 11, 3) := by decide +kernel
theorem dX11_hired_63 : decode cX11_hired 63 = .ok (.aload_n 0, 1) := by decide +kernel
theorem dX11_hired_64 : decode cX11_hired 64 = .ok (.getfield 25, 3) := by decide +kernel
theorem dX11_hired_67 : decode cX11_hired 67 = .ok (.iload_n 1, 1) := by decide +kernel
theorem dX11_hired_68 : decode cX11_hired 68 = .ok (.invokevirtual 234, 3) := by decide +kernel
theorem dX11_hired_71 : decode cX11_hired 71 = .ok (.ireturn, 1) := by decide +kernel
set_option maxRecDepth 20000 in
theorem ggX11_turns_X7_has : GoodIn wsX11_turns wsX7_has := goodIn_r _ [6, 7, 82, 83, 84, 85] (by decide +kernel) (by decide +kernel)
set_option maxRecDepth 20000 in
theorem gX11_turns_X7_has : GoodIn wsX11_turns (wsV RX11 126 RX7 yX7_has wsX7_has) := goodIn_app (goodIn_of _ (by decide +kernel)) ggX11_turns_X7_has
set_option maxRecDepth 20000 in
theorem ggX11_turns_X11_badAs : GoodIn wsX11_turns wsX11_badAs := goodIn_r _ [12, 13, 60, 61, 62, 63, 64, 65, 66, 67, 68, 69, 70, 71, 72, 73, 74] (by decide +kernel) (by decide +kernel)
set_option maxRecDepth 20000 in
theorem gX11_turns_X11_badAs : GoodIn wsX11_turns (wsV RX11 168 RX11 yX11_badAs wsX11_badAs) := goodIn_app (goodIn_of _ (by decide +kernel)) ggX11_turns_X11_badAs
set_option maxRecDepth 20000 in
theorem ggX11_turns_X11_chooseFromTheLast : GoodIn wsX11_turns wsX11_chooseFromTheLast := goodIn_r _ [17, 18, 1, 19, 20, 21, 22, 23, 24, 25, 26, 27, 28, 29, 30, 31, 5, 32, 7, 33, 34, 35, 11, 36, 37, 38, 39, 40, 41, 42, 43, 44, 45, 46, 47, 48, 49, 50, 51, 52, 53, 54, 55, 60, 61, 62, 63, 64, 65, 66, 67, 68, 69, 70, 71, 72, 73, 74, 75, 76, 77, 78, 79, 80, 81, 82, 83, 84, 85] (by decide +kernel) (by decide +kernel)
set_option maxRecDepth 20000 in
theorem gX11_turns_X11_chooseFromTheLast : GoodIn wsX11_turns (wsV RX11 237 RX11 yX11_chooseFromTheLast wsX11_chooseFromTheLast) := goodIn_app (goodIn_of _ (by decide +kernel)) ggX11_turns_X11_chooseFromTheLast
set_option maxRecDepth 20000 in
theorem ggX11_turns_X7_size : GoodIn wsX11_turns wsX7_size := goodIn_r _ [32, 7, 82, 83, 84, 85] (by decide +kernel) (by decide +kernel)
set_option maxRecDepth 20000 in
theorem gX11_turns_X7_size : GoodIn wsX11_turns (wsV RX11 113 RX7 yX7_size wsX7_size) := goodIn_app (goodIn_of _ (by decide +kernel)) ggX11_turns_X7_size
set_option maxRecDepth 20000 in
theorem ggX11_turns_X11_choiceAt : GoodIn wsX11_turns wsX11_choiceAt := goodIn_r _ [59, 23, 60, 61, 62, 63, 64, 65, 66, 67, 68, 69, 70, 71, 72, 73, 74] (by decide +kernel) (by decide +kernel)
set_option maxRecDepth 20000 in
theorem gX11_turns_X11_choiceAt : GoodIn wsX11_turns (wsV RX11 240 RX11 yX11_choiceAt wsX11_choiceAt) := goodIn_app (goodIn_of _ (by decide +kernel)) ggX11_turns_X11_choiceAt
theorem dX11_turns_0 : decode cX11_turns 0 = .ok (.iload_n 1, 1) := by decide +kernel
theorem dX11_turns_1 : decode cX11_turns 1 = .ok (.iconst (-1), 1) := by decide +kernel
theorem dX11_turns_2 : decode cX11_turns 2 = .ok (.if_icmp .eq 24, 3) := by decide +kernel
theorem dX11_turns_5 : decode cX11_turns 5 = .ok (.aload_n 0, 1) := by decide +kernel
theorem dX11_turns_6 : decode cX11_turns 6 = .ok (.getfield 88, 3) := by decide +kernel
theorem dX11_turns_9 : decode cX11_turns 9 = .ok (.getfield 109, 3) := by decide +kernel
theorem dX11_turns_12 : decode cX11_turns 12 = .ok (.iload_n 1, 1) := by decide +kernel
theorem dX11_turns_13 : decode cX11_turns 13 = .ok (.invokevirtual 126, 3) := by decide +kernel
theorem dX11_turns_16 : decode cX11_turns 16 = .ok (.ifCond .ne 10, 3) := by decide +kernel
theorem dX11_turns_19 : decode cX11_turns 19 = .ok (.aload_n 0, 1) := by decide +kernel
theorem dX11_turns_20 : decode cX11_turns 20 = .ok (.bipush (-10), 2) := by decide +kernel
theorem dX11_turns_22 : decode cX11_turns 22 = .ok (.invokevirtual 168, 3) := by decide +kernel
theorem dX11_turns_25 : decode cX11_turns 25 = .ok (.ireturn, 1) := by decide +kernel
theorem dX11_turns_26 : decode cX11_turns 26 = .ok (.aload_n 0, 1) := by decide +kernel
theorem dX11_turns_27 : decode cX11_turns 27 = .ok (.invokevirtual 237, 3) := by decide +kernel
theorem dX11_turns_30 : decode cX11_turns 30 = .ok (.aload_n 0, 1) := by decide +kernel
theorem dX11_turns_31 : decode cX11_turns 31 = .ok (.getfield 88, 3) := by decide +kernel
theorem dX11_turns_34 : decode cX11_turns 34 = .ok (.getfield 187, 3) := by decide +kernel
theorem dX11_turns_37 : decode cX11_turns 37 = .ok (.istore_n 2, 1) := by decide +kernel
theorem dX11_turns_38 : decode cX11_turns 38 = .ok (.iconst 0, 1) := by decide +kernel
theorem dX11_turns_39 : decode cX11_turns 39 = .ok (.istore_n 3, 1) := by decide +kernel
theorem dX11_turns_40 : decode cX11_turns 40 = .ok (.iload_n 3, 1) := by decide +kernel
theorem dX11_turns_41 : decode cX11_turns 41 = .ok (.aload_n 0, 1) := by decide +kernel
theorem dX11_turns_42 : decode cX11_turns 42 = .ok (.getfield 88, 3) := by decide +kernel
theorem dX11_turns_45 : decode cX11_turns 45 = .ok (.getfield 109, 3) := by decide +kernel
theorem dX11_turns_48 : decode cX11_turns 48 = .ok (.invokevirtual 113, 3) := by decide +kernel
theorem dX11_turns_51 : decode cX11_turns 51 = .ok (.if_icmp .ge 30, 3) := by decide +kernel
theorem dX11_turns_54 : decode cX11_turns 54 = .ok (.aload_n 0, 1) := by decide +kernel
theorem dX11_turns_55 : decode cX11_turns 55 = .ok (.iload_n 3, 1) := by decide +kernel
theorem dX11_turns_56 : decode cX11_turns 56 = .ok (.iload_n 2, 1) := by decide +kernel
theorem dX11_turns_57 : decode cX11_turns 57 = .ok (.invokevirtual 240, 3) := by decide +kernel
theorem dX11_turns_60 : decode cX11_turns 60 = .ok (.istore 4, 2) := by decide +kernel
theorem dX11_turns_62 : decode cX11_turns 62 = .ok (.iload_n 3, 1) := by decide +kernel
theorem dX11_turns_63 : decode cX11_turns 63 = .ok (.iload_n 1, 1) := by decide +kernel
theorem dX11_turns_64 : decode cX11_turns 64 = .ok (.if_icmp .ne 6, 3) := by decide +kernel
theorem dX11_turns_67 : decode cX11_turns 67 = .ok (.iload 4, 2) := by decide +kernel
theorem dX11_turns_69 : decode cX11_turns 69 = .ok (.ireturn, 1) := by decide +kernel
theorem dX11_turns_70 : decode cX11_turns 70 = .ok (.iload_n 2, 1) := by decide +kernel
theorem dX11_turns_71 : decode cX11_turns 71 = .ok (.iload 4, 2) := by decide +kernel
theorem dX11_turns_73 : decode cX11_turns 73 = .ok (.iadd, 1) := by decide +kernel
theorem dX11_turns_74 : decode cX11_turns 74 = .ok (.istore_n 2, 1) := by decide +kernel
theorem dX11_turns_75 : decode cX11_turns 75 = .ok (.iinc 3 1, 3) := by decide +kernel
theorem dX11_turns_78 : decode cX11_turns 78 = .ok (.goto (-38), 3) := by decide +kernel
theorem dX11_turns_81 : decode cX11_turns 81 = .ok (.iload_n 2, 1) := by decide +kernel
theorem dX11_turns_82 : decode cX11_turns 82 = .ok (.ireturn, 1) := by decide +kernel
set_option maxRecDepth 20000 in
theorem ggX11_treaty_X7_size : GoodIn wsX11_treaty wsX7_size := goodIn_r _ [6, 7, 45, 46, 47, 48] (by decide +kernel) (by decide +kernel)
set_option maxRecDepth 20000 in
theorem gX11_treaty_X7_size : GoodIn wsX11_treaty (wsV RX11 113 RX7 yX7_size wsX7_size) := goodIn_app (goodIn_of _ (by decide +kernel)) ggX11_treaty_X7_size
set_option maxRecDepth 20000 in
theorem ggX11_treaty_X11_farFromAll : GoodIn wsX11_treaty wsX11_farFromAll := goodIn_r _ [12, 1, 13, 14, 15, 16, 2, 3, 4, 5, 6, 7, 17, 18, 19, 20, 21, 22, 23, 24, 25, 26, 27, 28, 29, 30, 31, 32, 33, 34, 35, 36, 37, 38, 39, 40, 41, 42, 43, 44, 45, 46, 47, 48] (by decide +kernel) (by decide +kernel)
set_option maxRecDepth 20000 in
theorem gX11_treaty_X11_farFromAll : GoodIn wsX11_treaty (wsV RX11 243 RX11 yX11_farFromAll wsX11_farFromAll) := goodIn_app (goodIn_of _ (by decide +kernel)) ggX11_treaty_X11_farFromAll
theorem dX11_treaty_0 : decode cX11_treaty 0 = .ok (.aload_n 0, 1) := by decide +kernel
theorem dX11_treaty_1 : decode cX11_treaty 1 = .ok (.getfield 88, 3) := by decide +kernel
theorem dX11_treaty_4 : decode cX11_treaty 4 = .ok (.getfield 109, 3) := by decide +kernel
theorem dX11_treaty_7 : decode cX11_treaty 7 = .ok (.invokevirtual 113, 3) := by decide +kernel
theorem dX11_treaty_10 : decode cX11_treaty 10 = .ok (.ifCond .ne 5, 3) := by decide +kernel
theorem dX11_treaty_13 : decode cX11_treaty 13 = .ok (.iconst (-1), 1) := by decide +kernel
theorem dX11_treaty_14 : decode cX11_treaty 14 = .ok (.ireturn, 1) := by decide +kernel
theorem dX11_treaty_15 : decode cX11_treaty 15 = .ok (.iconst 0, 1) := by decide +kernel
theorem dX11_treaty_16 : decode cX11_treaty 16 = .ok (.istore_n 1, 1) := by decide +kernel
theorem dX11_treaty_17 : decode cX11_treaty 17 = .ok (.aload_n 0, 1) := by decide +kernel
theorem dX11_treaty_18 : decode cX11_treaty 18 = .ok (.iconst 0, 1) := by decide +kernel
theorem dX11_treaty_19 : decode cX11_treaty 19 = .ok (.invokevirtual 243, 3) := by decide +kernel
theorem dX11_treaty_22 : decode cX11_treaty 22 = .ok (.istore_n 2, 1) := by decide +kernel
theorem dX11_treaty_23 : decode cX11_treaty 23 = .ok (.iconst 1, 1) := by decide +kernel
theorem dX11_treaty_24 : decode cX11_treaty 24 = .ok (.istore_n 3, 1) := by decide +kernel
theorem dX11_treaty_25 : decode cX11_treaty 25 = .ok (.iload_n 3, 1) := by decide +kernel
theorem dX11_treaty_26 : decode cX11_treaty 26 = .ok (.bipush 30, 2) := by decide +kernel
theorem dX11_treaty_28 : decode cX11_treaty 28 = .ok (.if_icmp .gt 27, 3) := by decide +kernel
theorem dX11_treaty_31 : decode cX11_treaty 31 = .ok (.aload_n 0, 1) := by decide +kernel
theorem dX11_treaty_32 : decode cX11_treaty 32 = .ok (.iload_n 3, 1) := by decide +kernel
theorem dX11_treaty_33 : decode cX11_treaty 33 = .ok (.invokevirtual 243, 3) := by decide +kernel
theorem dX11_treaty_36 : decode cX11_treaty 36 = .ok (.istore 4, 2) := by decide +kernel
theorem dX11_treaty_38 : decode cX11_treaty 38 = .ok (.iload 4, 2) := by decide +kernel
theorem dX11_treaty_40 : decode cX11_treaty 40 = .ok (.iload_n 2, 1) := by decide +kernel
theorem dX11_treaty_41 : decode cX11_treaty 41 = .ok (.if_icmp .ge 8, 3) := by decide +kernel
theorem dX11_treaty_44 : decode cX11_treaty 44 = .ok (.iload_n 3, 1) := by decide +kernel
theorem dX11_treaty_45 : decode cX11_treaty 45 = .ok (.istore_n 1, 1) := by decide +kernel
theorem dX11_treaty_46 : decode cX11_treaty 46 = .ok (.iload 4, 2) := by decide +kernel
theorem dX11_treaty_48 : decode cX11_treaty 48 = .ok (.istore_n 2, 1) := by decide +kernel
theorem dX11_treaty_49 : decode cX11_treaty 49 = .ok (.iinc 3 1, 3) := by decide +kernel
theorem dX11_treaty_52 : decode cX11_treaty 52 = .ok (.goto (-27), 3) := by decide +kernel
theorem dX11_treaty_55 : decode cX11_treaty 55 = .ok (.iload_n 1, 1) := by decide +kernel
theorem dX11_treaty_56 : decode cX11_treaty 56 = .ok (.ireturn, 1) := by decide +kernel
set_option maxRecDepth 20000 in
theorem ggX11_look_X5_addLook : GoodIn wsX11_look wsX5_addLook := goodIn_r _ [6, 7, 8, 9, 10, 11, 12, 13, 14, 15, 16, 17, 18, 19, 20, 21, 22, 23, 24, 25, 26, 27, 28, 29, 30, 31, 32, 33, 34, 35, 36, 37, 38, 39, 40, 63, 64, 65, 66, 67, 68, 69, 70, 71, 72, 73] (by decide +kernel) (by decide +kernel)
set_option maxRecDepth 20000 in
theorem gX11_look_X5_addLook : GoodIn wsX11_look (wsV RX11 246 RX5 yX5_addLook wsX5_addLook) := goodIn_app (goodIn_of _ (by decide +kernel)) ggX11_look_X5_addLook
set_option maxRecDepth 20000 in
theorem ggX11_look_X11_counted : GoodIn wsX11_look wsX11_counted := goodIn_r _ [44, 45, 46, 47, 48, 49, 50, 51, 52, 53, 54, 55, 56, 57, 58, 59, 60, 61, 62] (by decide +kernel) (by decide +kernel)
set_option maxRecDepth 20000 in
theorem gX11_look_X11_counted : GoodIn wsX11_look (wsV RX11 99 RX11 yX11_counted wsX11_counted) := goodIn_app (goodIn_of _ (by decide +kernel)) ggX11_look_X11_counted
theorem dX11_look_0 : decode cX11_look 0 = .ok (.aload_n 0, 1) := by decide +kernel
theorem dX11_look_1 : decode cX11_look 1 = .ok (.aload_n 0, 1) := by decide +kernel
theorem dX11_look_2 : decode cX11_look 2 = .ok (.getfield 88, 3) := by decide +kernel
theorem dX11_look_5 : decode cX11_look 5 = .ok (.iload_n 1, 1) := by decide +kernel
theorem dX11_look_6 : decode cX11_look 6 = .ok (.iload_n 2, 1) := by decide +kernel
theorem dX11_look_7 : decode cX11_look 7 = .ok (.invokevirtual 246, 3) := by decide +kernel
theorem dX11_look_10 : decode cX11_look 10 = .ok (.invokevirtual 99, 3) := by decide +kernel
theorem dX11_look_13 : decode cX11_look 13 = .ok (.ireturn, 1) := by decide +kernel
set_option maxRecDepth 20000 in
theorem ggX11_forget_X7_dropAll : GoodIn wsX11_forget wsX7_dropAll := goodIn_r _ [6, 7, 30, 31, 32, 33] (by decide +kernel) (by decide +kernel)
set_option maxRecDepth 20000 in
theorem gX11_forget_X7_dropAll : GoodIn wsX11_forget (wsV RX11 249 RX7 yX7_dropAll wsX7_dropAll) := goodIn_app (goodIn_of _ (by decide +kernel)) ggX11_forget_X7_dropAll
theorem dX11_forget_0 : decode cX11_forget 0 = .ok (.aload_n 0, 1) := by decide +kernel
theorem dX11_forget_1 : decode cX11_forget 1 = .ok (.getfield 88, 3) := by decide +kernel
theorem dX11_forget_4 : decode cX11_forget 4 = .ok (.getfield 222, 3) := by decide +kernel
theorem dX11_forget_7 : decode cX11_forget 7 = .ok (.invokevirtual 249, 3) := by decide +kernel
theorem dX11_forget_10 : decode cX11_forget 10 = .ok (.aload_n 0, 1) := by decide +kernel
theorem dX11_forget_11 : decode cX11_forget 11 = .ok (.getfield 88, 3) := by decide +kernel
theorem dX11_forget_14 : decode cX11_forget 14 = .ok (.getfield 252, 3) := by decide +kernel
theorem dX11_forget_17 : decode cX11_forget 17 = .ok (.invokevirtual 249, 3) := by decide +kernel
theorem dX11_forget_20 : decode cX11_forget 20 = .ok (.iconst 1, 1) := by decide +kernel
theorem dX11_forget_21 : decode cX11_forget 21 = .ok (.ireturn, 1) := by decide +kernel
set_option maxRecDepth 20000 in
theorem ggX11_done_X11_rowsThatFit : GoodIn wsX11_done wsX11_rowsThatFit := goodIn_r _ [5, 6, 7, 8, 9, 10, 11, 12, 13, 14, 15, 16, 17, 18, 19, 20, 21, 22, 23, 4, 24, 25, 26, 27, 28, 29, 30, 31, 32, 33, 34, 35, 36, 37, 38, 39, 40, 41, 42, 43, 44, 45, 46, 47, 48, 49, 50, 51, 52, 53, 54, 55, 56, 57, 58, 59, 60, 61, 62, 63, 64, 65, 66, 67, 68, 69, 70, 71, 72, 73, 74, 75, 76, 77, 78, 79, 80, 81, 82, 83, 84, 85, 86, 87, 88, 89] (by decide +kernel) (by decide +kernel)
set_option maxRecDepth 20000 in
theorem gX11_done_X11_rowsThatFit : GoodIn wsX11_done (wsV RX11 255 RX11 yX11_rowsThatFit wsX11_rowsThatFit) := goodIn_app (goodIn_of _ (by decide +kernel)) ggX11_done_X11_rowsThatFit
theorem dX11_done_0 : decode cX11_done 0 = .ok (.aload_n 0, 1) := by decide +kernel
theorem dX11_done_1 : decode cX11_done 1 = .ok (.iconst (-1), 1) := by decide +kernel
theorem dX11_done_2 : decode cX11_done 2 = .ok (.iconst 0, 1) := by decide +kernel
theorem dX11_done_3 : decode cX11_done 3 = .ok (.invokevirtual 255, 3) := by decide +kernel
theorem dX11_done_6 : decode cX11_done 6 = .ok (.ireturn, 1) := by decide +kernel
set_option maxRecDepth 20000 in
theorem ggX11_sure_X7_has : GoodIn wsX11_sure wsX7_has := goodIn_r _ [7, 8, 94, 95, 96, 97] (by decide +kernel) (by decide +kernel)
set_option maxRecDepth 20000 in
theorem gX11_sure_X7_has : GoodIn wsX11_sure (wsV RX11 126 RX7 yX7_has wsX7_has) := goodIn_app (goodIn_of _ (by decide +kernel)) ggX11_sure_X7_has
set_option maxRecDepth 20000 in
theorem ggX11_sure_X11_badAs : GoodIn wsX11_sure wsX11_badAs := goodIn_r _ [13, 14, 72, 73, 74, 75, 76, 77, 78, 79, 80, 81, 82, 83, 84, 85, 86] (by decide +kernel) (by decide +kernel)
set_option maxRecDepth 20000 in
theorem gX11_sure_X11_badAs : GoodIn wsX11_sure (wsV RX11 168 RX11 yX11_badAs wsX11_badAs) := goodIn_app (goodIn_of _ (by decide +kernel)) ggX11_sure_X11_badAs
set_option maxRecDepth 20000 in
theorem ggX11_sure_X11_rowsThatFit : GoodIn wsX11_sure wsX11_rowsThatFit := goodIn_r _ [18, 19, 1, 20, 21, 22, 23, 24, 25, 26, 27, 28, 29, 30, 31, 32, 33, 34, 35, 12, 36, 37, 38, 39, 6, 40, 8, 41, 42, 43, 44, 45, 46, 47, 48, 49, 50, 51, 52, 53, 54, 55, 56, 57, 58, 59, 60, 61, 62, 63, 64, 65, 66, 67, 68, 69, 70, 71, 72, 73, 74, 75, 76, 77, 78, 79, 80, 81, 82, 83, 84, 85, 86, 87, 88, 89, 90, 91, 92, 93, 98, 99, 94, 95, 96, 97] (by decide +kernel) (by decide +kernel)
set_option maxRecDepth 20000 in
theorem gX11_sure_X11_rowsThatFit : GoodIn wsX11_sure (wsV RX11 255 RX11 yX11_rowsThatFit wsX11_rowsThatFit) := goodIn_app (goodIn_of _ (by decide +kernel)) ggX11_sure_X11_rowsThatFit
theorem dX11_sure_0 : decode cX11_sure 0 = .ok (.aload_n 0, 1) := by decide +kernel
theorem dX11_sure_1 : decode cX11_sure 1 = .ok (.getfield 88, 3) := by decide +kernel
theorem dX11_sure_4 : decode cX11_sure 4 = .ok (.getfield 109, 3) := by decide +kernel
theorem dX11_sure_7 : decode cX11_sure 7 = .ok (.iload_n 1, 1) := by decide +kernel
theorem dX11_sure_8 : decode cX11_sure 8 = .ok (.invokevirtual 126, 3) := by decide +kernel
theorem dX11_sure_11 : decode cX11_sure 11 = .ok (.ifCond .ne 10, 3) := by decide +kernel
theorem dX11_sure_14 : decode cX11_sure 14 = .ok (.aload_n 0, 1) := by decide +kernel
theorem dX11_sure_15 : decode cX11_sure 15 = .ok (.bipush (-10), 2) := by decide +kernel
theorem dX11_sure_17 : decode cX11_sure 17 = .ok (.invokevirtual 168, 3) := by decide +kernel
theorem dX11_sure_20 : decode cX11_sure 20 = .ok (.ireturn, 1) := by decide +kernel
theorem dX11_sure_21 : decode cX11_sure 21 = .ok (.bipush (-20), 2) := by decide +kernel
theorem dX11_sure_23 : decode cX11_sure 23 = .ok (.istore_n 2, 1) := by decide +kernel
theorem dX11_sure_24 : decode cX11_sure 24 = .ok (.iconst (-1), 1) := by decide +kernel
theorem dX11_sure_25 : decode cX11_sure 25 = .ok (.istore_n 3, 1) := by decide +kernel
theorem dX11_sure_26 : decode cX11_sure 26 = .ok (.iload_n 3, 1) := by decide +kernel
theorem dX11_sure_27 : decode cX11_sure 27 = .ok (.iconst 1, 1) := by decide +kernel
theorem dX11_sure_28 : decode cX11_sure 28 = .ok (.if_icmp .gt 31, 3) := by decide +kernel
theorem dX11_sure_31 : decode cX11_sure 31 = .ok (.aload_n 0, 1) := by decide +kernel
theorem dX11_sure_32 : decode cX11_sure 32 = .ok (.iload_n 1, 1) := by decide +kernel
theorem dX11_sure_33 : decode cX11_sure 33 = .ok (.iload_n 3, 1) := by decide +kernel
theorem dX11_sure_34 : decode cX11_sure 34 = .ok (.invokevirtual 255, 3) := by decide +kernel
theorem dX11_sure_37 : decode cX11_sure 37 = .ok (.ifCond .le 16, 3) := by decide +kernel
theorem dX11_sure_40 : decode cX11_sure 40 = .ok (.iload_n 2, 1) := by decide +kernel
theorem dX11_sure_41 : decode cX11_sure 41 = .ok (.bipush (-20), 2) := by decide +kernel
theorem dX11_sure_43 : decode cX11_sure 43 = .ok (.if_icmp .ne 7, 3) := by decide +kernel
theorem dX11_sure_46 : decode cX11_sure 46 = .ok (.iload_n 3, 1) := by decide +kernel
theorem dX11_sure_47 : decode cX11_sure 47 = .ok (.goto 5, 3) := by decide +kernel
theorem dX11_sure_50 : decode cX11_sure 50 = .ok (.bipush (-5), 2) := by decide +kernel
theorem dX11_sure_52 : decode cX11_sure 52 = .ok (.istore_n 2, 1) := by decide +kernel
theorem dX11_sure_53 : decode cX11_sure 53 = .ok (.iinc 3 1, 3) := by decide +kernel
theorem dX11_sure_56 : decode cX11_sure 56 = .ok (.goto (-30), 3) := by decide +kernel
theorem dX11_sure_59 : decode cX11_sure 59 = .ok (.iload_n 2, 1) := by decide +kernel
theorem dX11_sure_60 : decode cX11_sure 60 = .ok (.bipush (-20), 2) := by decide +kernel
theorem dX11_sure_62 : decode cX11_sure 62 = .ok (.if_icmp .ne 13, 3) := by decide +kernel
theorem dX11_sure_65 : decode cX11_sure 65 = .ok (.aload_n 0, 1) := by decide +kernel
theorem dX11_sure_66 : decode cX11_sure 66 = .ok (.dup, 1) := by decide +kernel
theorem dX11_sure_67 : decode cX11_sure 67 = .ok (.getfield 57, 3) := by decide +kernel
theorem dX11_sure_70 : decode cX11_sure 70 = .ok (.iconst 1, 1) := by decide +kernel
theorem dX11_sure_71 : decode cX11_sure 71 = .ok (.iadd, 1) := by decide +kernel
theorem dX11_sure_72 : decode cX11_sure 72 = .ok (.putfield 57, 3) := by decide +kernel
theorem dX11_sure_75 : decode cX11_sure 75 = .ok (.iload_n 2, 1) := by decide +kernel
theorem dX11_sure_76 : decode cX11_sure 76 = .ok (.ireturn, 1) := by decide +kernel
set_option maxRecDepth 20000 in
theorem ggX11_chance_X11_isHigh : GoodIn wsX11_chance wsX11_isHigh := goodIn_r _ [7, 8, 9, 6, 10] (by decide +kernel) (by decide +kernel)
set_option maxRecDepth 20000 in
theorem gX11_chance_X11_isHigh : GoodIn wsX11_chance (va_wsS RX11 196 yX11_isHigh wsX11_isHigh) := goodIn_app (goodIn_of _ (by decide +kernel)) ggX11_chance_X11_isHigh
set_option maxRecDepth 20000 in
theorem ggX11_chance_X11_counted : GoodIn wsX11_chance wsX11_counted := goodIn_r _ [14, 15, 16, 17, 69, 70, 71, 72, 73, 74, 75, 76, 77, 78, 79, 80, 81, 82, 83] (by decide +kernel) (by decide +kernel)
set_option maxRecDepth 20000 in
theorem gX11_chance_X11_counted : GoodIn wsX11_chance (wsV RX11 99 RX11 yX11_counted wsX11_counted) := goodIn_app (goodIn_of _ (by decide +kernel)) ggX11_chance_X11_counted
set_option maxRecDepth 20000 in
theorem ggX11_chance_X8_startAt : GoodIn wsX11_chance wsX8_startAt := goodIn_r _ [22, 23, 24, 25, 26, 27, 28, 29, 21, 30, 91, 92] (by decide +kernel) (by decide +kernel)
set_option maxRecDepth 20000 in
theorem gX11_chance_X8_startAt : GoodIn wsX11_chance (wsV RX11 258 RX8 yX8_startAt wsX8_startAt) := goodIn_app (goodIn_of _ (by decide +kernel)) ggX11_chance_X8_startAt
set_option maxRecDepth 20000 in
theorem ggX11_chance_X7_size : GoodIn wsX11_chance wsX7_size := goodIn_r _ [35, 36, 93, 94, 95, 96] (by decide +kernel) (by decide +kernel)
set_option maxRecDepth 20000 in
theorem gX11_chance_X7_size : GoodIn wsX11_chance (wsV RX11 113 RX7 yX7_size wsX7_size) := goodIn_app (goodIn_of _ (by decide +kernel)) ggX11_chance_X7_size
set_option maxRecDepth 20000 in
theorem ggX11_chance_X11_passByOdds : GoodIn wsX11_chance wsX11_passByOdds := goodIn_r _ [40, 2, 1, 41, 42, 43, 34, 44, 45, 46, 47, 48, 49, 21, 50, 51, 23, 52, 53, 54, 55, 24, 25, 26, 27, 28, 29, 30, 69, 70, 71, 72, 73, 74, 75, 76, 77, 78, 79, 80, 81, 82, 83, 84, 85, 86, 87, 88, 89, 90, 93, 94, 95, 96, 91, 92] (by decide +kernel) (by decide +kernel)
set_option maxRecDepth 20000 in
theorem gX11_chance_X11_passByOdds : GoodIn wsX11_chance (wsV RX11 262 RX11 yX11_passByOdds wsX11_passByOdds) := goodIn_app (goodIn_of _ (by decide +kernel)) ggX11_chance_X11_passByOdds
set_option maxRecDepth 20000 in
theorem ggX11_chance_X8_upTo : GoodIn wsX11_chance wsX8_upTo := goodIn_r _ [59, 23, 91, 92] (by decide +kernel) (by decide +kernel)
set_option maxRecDepth 20000 in
theorem gX11_chance_X8_upTo : GoodIn wsX11_chance (wsV RX11 267 RX8 yX8_upTo wsX8_upTo) := goodIn_app (goodIn_of _ (by decide +kernel)) ggX11_chance_X8_upTo
set_option maxRecDepth 20000 in
theorem ggX11_chance_X11_setFraction : GoodIn wsX11_chance wsX11_setFraction := goodIn_r _ [63, 64, 65, 66, 67, 6, 68, 69, 70, 71, 72, 73, 74, 75, 76, 77, 78, 79, 80, 81, 82, 83] (by decide +kernel) (by decide +kernel)
set_option maxRecDepth 20000 in
theorem gX11_chance_X11_setFraction : GoodIn wsX11_chance (wsV RX11 271 RX11 yX11_setFraction wsX11_setFraction) := goodIn_app (goodIn_of _ (by decide +kernel)) ggX11_chance_X11_setFraction
theorem dX11_chance_0 : decode cX11_chance 0 = .ok (.iload_n 1, 1) := by decide +kernel
theorem dX11_chance_1 : decode cX11_chance 1 = .ok (.invokestatic 196, 3) := by decide +kernel
theorem dX11_chance_4 : decode cX11_chance 4 = .ok (.ifCond .ne 10, 3) := by decide +kernel
theorem dX11_chance_7 : decode cX11_chance 7 = .ok (.aload_n 0, 1) := by decide +kernel
theorem dX11_chance_8 : decode cX11_chance 8 = .ok (.bipush (-2), 2) := by decide +kernel
theorem dX11_chance_10 : decode cX11_chance 10 = .ok (.invokevirtual 99, 3) := by decide +kernel
theorem dX11_chance_13 : decode cX11_chance 13 = .ok (.ireturn, 1) := by decide +kernel
theorem dX11_chance_14 : decode cX11_chance 14 = .ok (.aload_n 0, 1) := by decide +kernel
theorem dX11_chance_15 : decode cX11_chance 15 = .ok (.getfield 32, 3) := by decide +kernel
theorem dX11_chance_18 : decode cX11_chance 18 = .ok (.aload_n 0, 1) := by decide +kernel
theorem dX11_chance_19 : decode cX11_chance 19 = .ok (.getfield 88, 3) := by decide +kernel
theorem dX11_chance_22 : decode cX11_chance 22 = .ok (.getfield 187, 3) := by decide +kernel
theorem dX11_chance_25 : decode cX11_chance 25 = .ok (.invokevirtual 258, 3) := by decide +kernel
theorem dX11_chance_28 : decode cX11_chance 28 = .ok (.lconst 1, 1) := by decide +kernel
theorem dX11_chance_29 : decode cX11_chance 29 = .ok (.lstore_n 2, 1) := by decide +kernel
theorem dX11_chance_30 : decode cX11_chance 30 = .ok (.iconst 0, 1) := by decide +kernel
theorem dX11_chance_31 : decode cX11_chance 31 = .ok (.istore 4, 2) := by decide +kernel
theorem dX11_chance_33 : decode cX11_chance 33 = .ok (.iload 4, 2) := by decide +kernel
theorem dX11_chance_35 : decode cX11_chance 35 = .ok (.aload_n 0, 1) := by decide +kernel
theorem dX11_chance_36 : decode cX11_chance 36 = .ok (.getfield 88, 3) := by decide +kernel
theorem dX11_chance_39 : decode cX11_chance 39 = .ok (.getfield 109, 3) := by decide +kernel
theorem dX11_chance_42 : decode cX11_chance 42 = .ok (.invokevirtual 113, 3) := by decide +kernel
theorem dX11_chance_45 : decode cX11_chance 45 = .ok (.if_icmp .ge 21, 3) := by decide +kernel
theorem dX11_chance_48 : decode cX11_chance 48 = .ok (.aload_n 0, 1) := by decide +kernel
theorem dX11_chance_49 : decode cX11_chance 49 = .ok (.iload 4, 2) := by decide +kernel
theorem dX11_chance_51 : decode cX11_chance 51 = .ok (.invokevirtual 262, 3) := by decide +kernel
theorem dX11_chance_54 : decode cX11_chance 54 = .ok (.lload_n 2, 1) := by decide +kernel
theorem dX11_chance_55 : decode cX11_chance 55 = .ok (.ldc2_w 265, 3) := by decide +kernel
theorem dX11_chance_58 : decode cX11_chance 58 = .ok (.lmul, 1) := by decide +kernel
theorem dX11_chance_59 : decode cX11_chance 59 = .ok (.lstore_n 2, 1) := by decide +kernel
theorem dX11_chance_60 : decode cX11_chance 60 = .ok (.iinc 4 1, 3) := by decide +kernel
theorem dX11_chance_63 : decode cX11_chance 63 = .ok (.goto (-30), 3) := by decide +kernel
theorem dX11_chance_66 : decode cX11_chance 66 = .ok (.aload_n 0, 1) := by decide +kernel
theorem dX11_chance_67 : decode cX11_chance 67 = .ok (.aload_n 0, 1) := by decide +kernel
theorem dX11_chance_68 : decode cX11_chance 68 = .ok (.getfield 32, 3) := by decide +kernel
theorem dX11_chance_71 : decode cX11_chance 71 = .ok (.iload_n 1, 1) := by decide +kernel
theorem dX11_chance_72 : decode cX11_chance 72 = .ok (.invokevirtual 267, 3) := by decide +kernel
theorem dX11_chance_75 : decode cX11_chance 75 = .ok (.lload_n 2, 1) := by decide +kernel
theorem dX11_chance_76 : decode cX11_chance 76 = .ok (.invokevirtual 271, 3) := by decide +kernel
theorem dX11_chance_79 : decode cX11_chance 79 = .ok (.iconst 1, 1) := by decide +kernel
theorem dX11_chance_80 : decode cX11_chance 80 = .ok (.ireturn, 1) := by decide +kernel
set_option maxRecDepth 20000 in
theorem ggX11_free_X7_has : GoodIn wsX11_free wsX7_has := goodIn_r _ [8, 9, 93, 94, 95, 96] (by decide +kernel) (by decide +kernel)
set_option maxRecDepth 20000 in
theorem gX11_free_X7_has : GoodIn wsX11_free (wsV RX11 126 RX7 yX7_has wsX7_has) := goodIn_app (goodIn_of _ (by decide +kernel)) ggX11_free_X7_has
set_option maxRecDepth 20000 in
theorem ggX11_free_X11_within : GoodIn wsX11_free wsX11_within := goodIn_r _ [13] (by decide +kernel) (by decide +kernel)
set_option maxRecDepth 20000 in
theorem gX11_free_X11_within : GoodIn wsX11_free (va_wsS RX11 130 yX11_within wsX11_within) := goodIn_app (goodIn_of _ (by decide +kernel)) ggX11_free_X11_within
set_option maxRecDepth 20000 in
theorem ggX11_free_X11_counted : GoodIn wsX11_free wsX11_counted := goodIn_r _ [17, 18, 19, 20, 71, 72, 73, 74, 75, 76, 77, 78, 79, 80, 81, 82, 83, 84, 85] (by decide +kernel) (by decide +kernel)
set_option maxRecDepth 20000 in
theorem gX11_free_X11_counted : GoodIn wsX11_free (wsV RX11 99 RX11 yX11_counted wsX11_counted) := goodIn_app (goodIn_of _ (by decide +kernel)) ggX11_free_X11_counted
set_option maxRecDepth 20000 in
theorem ggX11_free_X8_startAt : GoodIn wsX11_free wsX8_startAt := goodIn_r _ [25, 26, 27, 28, 29, 30, 31, 32, 24, 33, 97, 98] (by decide +kernel) (by decide +kernel)
set_option maxRecDepth 20000 in
theorem gX11_free_X8_startAt : GoodIn wsX11_free (wsV RX11 258 RX8 yX8_startAt wsX8_startAt) := goodIn_app (goodIn_of _ (by decide +kernel)) ggX11_free_X8_startAt
set_option maxRecDepth 20000 in
theorem ggX11_free_X8_takeOutUpTo : GoodIn wsX11_free wsX8_takeOutUpTo := goodIn_r _ [37, 26, 38, 39, 40, 24, 41, 97, 98] (by decide +kernel) (by decide +kernel)
set_option maxRecDepth 20000 in
theorem gX11_free_X8_takeOutUpTo : GoodIn wsX11_free (wsV RX11 275 RX8 yX8_takeOutUpTo wsX8_takeOutUpTo) := goodIn_app (goodIn_of _ (by decide +kernel)) ggX11_free_X8_takeOutUpTo
set_option maxRecDepth 20000 in
theorem ggX11_free_X11_passByOdds : GoodIn wsX11_free wsX11_passByOdds := goodIn_r _ [45, 1, 2, 46, 47, 48, 7, 49, 50, 51, 52, 53, 54, 24, 55, 56, 26, 57, 58, 59, 60, 27, 28, 29, 30, 31, 32, 33, 71, 72, 73, 74, 75, 76, 77, 78, 79, 80, 81, 82, 83, 84, 85, 86, 87, 88, 89, 90, 91, 92, 93, 94, 95, 96, 97, 98] (by decide +kernel) (by decide +kernel)
set_option maxRecDepth 20000 in
theorem gX11_free_X11_passByOdds : GoodIn wsX11_free (wsV RX11 262 RX11 yX11_passByOdds wsX11_passByOdds) := goodIn_app (goodIn_of _ (by decide +kernel)) ggX11_free_X11_passByOdds
set_option maxRecDepth 20000 in
theorem ggX11_free_X8_upTo : GoodIn wsX11_free wsX8_upTo := goodIn_r _ [41, 26, 97, 98] (by decide +kernel) (by decide +kernel)
set_option maxRecDepth 20000 in
theorem gX11_free_X8_upTo : GoodIn wsX11_free (wsV RX11 267 RX8 yX8_upTo wsX8_upTo) := goodIn_app (goodIn_of _ (by decide +kernel)) ggX11_free_X8_upTo
set_option maxRecDepth 20000 in
theorem ggX11_free_X11_setFraction : GoodIn wsX11_free wsX11_setFraction := goodIn_r _ [65, 66, 67, 68, 69, 12, 70, 71, 72, 73, 74, 75, 76, 77, 78, 79, 80, 81, 82, 83, 84, 85] (by decide +kernel) (by decide +kernel)
set_option maxRecDepth 20000 in
theorem gX11_free_X11_setFraction : GoodIn wsX11_free (wsV RX11 271 RX11 yX11_setFraction wsX11_setFraction) := goodIn_app (goodIn_of _ (by decide +kernel)) ggX11_free_X11_setFraction
theorem dX11_free_0 : decode cX11_free 0 = .ok (.iload_n 1, 1) := by decide +kernel
theorem dX11_free_1 : decode cX11_free 1 = .ok (.iconst (-1), 1) := by decide +kernel
theorem dX11_free_2 : decode cX11_free 2 = .ok (.if_icmp .eq 17, 3) := by decide +kernel
theorem dX11_free_5 : decode cX11_free 5 = .ok (.aload_n 0, 1) := by decide +kernel
theorem dX11_free_6 : decode cX11_free 6 = .ok (.getfield 88, 3) := by decide +kernel
theorem dX11_free_9 : decode cX11_free 9 = .ok (.getfield 109, 3) := by decide +kernel
theorem dX11_free_12 : decode cX11_free 12 = .ok (.iload_n 1, 1) := by decide +kernel
theorem dX11_free_13 : decode cX11_free 13 = .ok (.invokevirtual 126, 3) := by decide +kernel
theorem dX11_free_16 : decode cX11_free 16 = .ok (.ifCond .eq 12, 3) := by decide +kernel
theorem dX11_free_19 : decode cX11_free 19 = .ok (.iload_n 2, 1) := by decide +kernel
theorem dX11_free_20 : decode cX11_free 20 = .ok (.iconst 0, 1) := by decide +kernel
theorem dX11_free_21 : decode cX11_free 21 = .ok (.iconst 1, 1) := by decide +kernel
theorem dX11_free_22 : decode cX11_free 22 = .ok (.invokestatic 130, 3) := by decide +kernel
theorem dX11_free_25 : decode cX11_free 25 = .ok (.ifCond .ne 10, 3) := by decide +kernel
theorem dX11_free_28 : decode cX11_free 28 = .ok (.aload_n 0, 1) := by decide +kernel
theorem dX11_free_29 : decode cX11_free 29 = .ok (.bipush (-2), 2) := by decide +kernel
theorem dX11_free_31 : decode cX11_free 31 = .ok (.invokevirtual 99, 3) := by decide +kernel
theorem dX11_free_34 : decode cX11_free 34 = .ok (.ireturn, 1) := by decide +kernel
theorem dX11_free_35 : decode cX11_free 35 = .ok (.aload_n 0, 1) := by decide +kernel
theorem dX11_free_36 : decode cX11_free 36 = .ok (.getfield 32, 3) := by decide +kernel
theorem dX11_free_39 : decode cX11_free 39 = .ok (.aload_n 0, 1) := by decide +kernel
theorem dX11_free_40 : decode cX11_free 40 = .ok (.getfield 88, 3) := by decide +kernel
theorem dX11_free_43 : decode cX11_free 43 = .ok (.getfield 187, 3) := by decide +kernel
theorem dX11_free_46 : decode cX11_free 46 = .ok (.invokevirtual 258, 3) := by decide +kernel
theorem dX11_free_49 : decode cX11_free 49 = .ok (.aload_n 0, 1) := by decide +kernel
theorem dX11_free_50 : decode cX11_free 50 = .ok (.getfield 32, 3) := by decide +kernel
theorem dX11_free_53 : decode cX11_free 53 = .ok (.aload_n 0, 1) := by decide +kernel
theorem dX11_free_54 : decode cX11_free 54 = .ok (.getfield 88, 3) := by decide +kernel
theorem dX11_free_57 : decode cX11_free 57 = .ok (.getfield 190, 3) := by decide +kernel
theorem dX11_free_60 : decode cX11_free 60 = .ok (.invokevirtual 275, 3) := by decide +kernel
theorem dX11_free_63 : decode cX11_free 63 = .ok (.lstore_n 3, 1) := by decide +kernel
theorem dX11_free_64 : decode cX11_free 64 = .ok (.lconst 1, 1) := by decide +kernel
theorem dX11_free_65 : decode cX11_free 65 = .ok (.lstore 5, 2) := by decide +kernel
theorem dX11_free_67 : decode cX11_free 67 = .ok (.iconst 0, 1) := by decide +kernel
theorem dX11_free_68 : decode cX11_free 68 = .ok (.istore 7, 2) := by decide +kernel
theorem dX11_free_70 : decode cX11_free 70 = .ok (.iload 7, 2) := by decide +kernel
theorem dX11_free_72 : decode cX11_free 72 = .ok (.iload_n 1, 1) := by decide +kernel
theorem dX11_free_73 : decode cX11_free 73 = .ok (.if_icmp .gt 38, 3) := by decide +kernel
theorem dX11_free_76 : decode cX11_free 76 = .ok (.aload_n 0, 1) := by decide +kernel
theorem dX11_free_77 : decode cX11_free 77 = .ok (.iload 7, 2) := by decide +kernel
theorem dX11_free_79 : decode cX11_free 79 = .ok (.invokevirtual 262, 3) := by decide +kernel
theorem dX11_free_82 : decode cX11_free 82 = .ok (.lload 5, 2) := by decide +kernel
theorem dX11_free_84 : decode cX11_free 84 = .ok (.ldc2_w 265, 3) := by decide +kernel
theorem dX11_free_87 : decode cX11_free 87 = .ok (.lmul, 1) := by decide +kernel
theorem dX11_free_88 : decode cX11_free 88 = .ok (.lstore 5, 2) := by decide +kernel
theorem dX11_free_90 : decode cX11_free 90 = .ok (.aload_n 0, 1) := by decide +kernel
theorem dX11_free_91 : decode cX11_free 91 = .ok (.getfield 32, 3) := by decide +kernel
theorem dX11_free_94 : decode cX11_free 94 = .ok (.aload_n 0, 1) := by decide +kernel
theorem dX11_free_95 : decode cX11_free 95 = .ok (.getfield 88, 3) := by decide +kernel
theorem dX11_free_98 : decode cX11_free 98 = .ok (.getfield 190, 3) := by decide +kernel
theorem dX11_free_101 : decode cX11_free 101 = .ok (.invokevirtual 275, 3) := by decide +kernel
theorem dX11_free_104 : decode cX11_free 104 = .ok (.lstore_n 3, 1) := by decide +kernel
theorem dX11_free_105 : decode cX11_free 105 = .ok (.iinc 7 1, 3) := by decide +kernel
theorem dX11_free_108 : decode cX11_free 108 = .ok (.goto (-38), 3) := by decide +kernel
theorem dX11_free_111 : decode cX11_free 111 = .ok (.aload_n 0, 1) := by decide +kernel
theorem dX11_free_112 : decode cX11_free 112 = .ok (.iload_n 2, 1) := by decide +kernel
theorem dX11_free_113 : decode cX11_free 113 = .ok (.ifCond .ne 7, 3) := by decide +kernel
theorem dX11_free_116 : decode cX11_free 116 = .ok (.lload_n 3, 1) := by decide +kernel
theorem dX11_free_117 : decode cX11_free 117 = .ok (.goto 15, 3) := by decide +kernel
theorem dX11_free_120 : decode cX11_free 120 = .ok (.lload 5, 2) := by decide +kernel
theorem dX11_free_122 : decode cX11_free 122 = .ok (.aload_n 0, 1) := by decide +kernel
theorem dX11_free_123 : decode cX11_free 123 = .ok (.getfield 32, 3) := by decide +kernel
theorem dX11_free_126 : decode cX11_free 126 = .ok (.bipush 30, 2) := by decide +kernel
theorem dX11_free_128 : decode cX11_free 128 = .ok (.invokevirtual 267, 3) := by decide +kernel
theorem dX11_free_131 : decode cX11_free 131 = .ok (.lsub, 1) := by decide +kernel
theorem dX11_free_132 : decode cX11_free 132 = .ok (.lload 5, 2) := by decide +kernel
theorem dX11_free_134 : decode cX11_free 134 = .ok (.invokevirtual 271, 3) := by decide +kernel
theorem dX11_free_137 : decode cX11_free 137 = .ok (.iconst 1, 1) := by decide +kernel
theorem dX11_free_138 : decode cX11_free 138 = .ok (.ireturn, 1) := by decide +kernel
set_option maxRecDepth 20000 in
theorem ggX11_part_X11_within : GoodIn wsX11_part wsX11_within := goodIn_r _ [6] (by decide +kernel) (by decide +kernel)
set_option maxRecDepth 20000 in
theorem gX11_part_X11_within : GoodIn wsX11_part (va_wsS RX11 130 yX11_within wsX11_within) := goodIn_app (goodIn_of _ (by decide +kernel)) ggX11_part_X11_within
set_option maxRecDepth 20000 in
theorem ggX11_part_X11_counted : GoodIn wsX11_part wsX11_counted := goodIn_r _ [10, 11, 12, 13, 14, 15, 16, 17, 18, 19, 20, 21, 22, 23, 24, 25, 26, 27, 28] (by decide +kernel) (by decide +kernel)
set_option maxRecDepth 20000 in
theorem gX11_part_X11_counted : GoodIn wsX11_part (wsV RX11 99 RX11 yX11_counted wsX11_counted) := goodIn_app (goodIn_of _ (by decide +kernel)) ggX11_part_X11_counted
theorem dX11_part_0 : decode cX11_part 0 = .ok (.iload_n 1, 1) := by decide +kernel
theorem dX11_part_1 : decode cX11_part 1 = .ok (.iconst 0, 1) := by decide +kernel
theorem dX11_part_2 : decode cX11_part 2 = .ok (.iconst 1, 1) := by decide +kernel
theorem dX11_part_3 : decode cX11_part 3 = .ok (.invokestatic 130, 3) := by decide +kernel
theorem dX11_part_6 : decode cX11_part 6 = .ok (.ifCond .ne 11, 3) := by decide +kernel
theorem dX11_part_9 : decode cX11_part 9 = .ok (.aload_n 0, 1) := by decide +kernel
theorem dX11_part_10 : decode cX11_part 10 = .ok (.bipush (-2), 2) := by decide +kernel
theorem dX11_part_12 : decode cX11_part 12 = .ok (.invokevirtual 99, 3) := by decide +kernel
theorem dX11_part_15 : decode cX11_part 15 = .ok (.i2l, 1) := by decide +kernel
theorem dX11_part_16 : decode cX11_part 16 = .ok (.lreturn, 1) := by decide +kernel
theorem dX11_part_17 : decode cX11_part 17 = .ok (.iload_n 1, 1) := by decide +kernel
theorem dX11_part_18 : decode cX11_part 18 = .ok (.ifCond .ne 10, 3) := by decide +kernel
theorem dX11_part_21 : decode cX11_part 21 = .ok (.aload_n 0, 1) := by decide +kernel
theorem dX11_part_22 : decode cX11_part 22 = .ok (.getfield 46, 3) := by decide +kernel
theorem dX11_part_25 : decode cX11_part 25 = .ok (.goto 7, 3) := by decide +kernel
theorem dX11_part_28 : decode cX11_part 28 = .ok (.aload_n 0, 1) := by decide +kernel
theorem dX11_part_29 : decode cX11_part 29 = .ok (.getfield 50, 3) := by decide +kernel
theorem dX11_part_32 : decode cX11_part 32 = .ok (.lreturn, 1) := by decide +kernel
set_option maxRecDepth 20000 in
theorem ggX11_image_X11_isImage : GoodIn wsX11_image wsX11_isImage := goodIn_r _ [11, 1, 59, 60, 61, 62, 63, 64, 65, 66, 67, 68, 69, 70, 71, 72, 73] (by decide +kernel) (by decide +kernel)
set_option maxRecDepth 20000 in
theorem gX11_image_X11_isImage : GoodIn wsX11_image (wsV RX11 278 RX11 yX11_isImage wsX11_isImage) := goodIn_app (goodIn_of _ (by decide +kernel)) ggX11_image_X11_isImage
set_option maxRecDepth 20000 in
theorem ggX11_image_X11_counted : GoodIn wsX11_image wsX11_counted := goodIn_r _ [15, 16, 17, 18, 59, 60, 61, 62, 63, 64, 65, 66, 67, 68, 69, 70, 71, 72, 73] (by decide +kernel) (by decide +kernel)
set_option maxRecDepth 20000 in
theorem gX11_image_X11_counted : GoodIn wsX11_image (wsV RX11 99 RX11 yX11_counted wsX11_counted) := goodIn_app (goodIn_of _ (by decide +kernel)) ggX11_image_X11_counted
set_option maxRecDepth 20000 in
theorem ggX11_image_X5_init : GoodIn wsX11_image wsX5_init := goodIn_r _ [21, 22, 23, 24, 25, 26, 27, 28, 29, 30, 31, 32, 33, 34, 35, 36, 37, 38, 39, 40, 41, 42, 43, 44, 45, 46, 47, 81, 82, 83, 84, 74, 75, 76, 77, 78, 79, 80] (by decide +kernel) (by decide +kernel)
set_option maxRecDepth 20000 in
theorem gX11_image_X5_init : GoodIn wsX11_image (wsX5_init) := ggX11_image_X5_init
set_option maxRecDepth 20000 in
theorem ggX11_image_X5_become : GoodIn wsX11_image wsX5_become := goodIn_r _ [51, 32, 33, 28, 29, 30, 31, 52, 53, 54, 27, 55, 39, 44, 56, 57, 42, 58, 47, 74, 75, 76, 77, 78, 79, 80, 81, 82, 83, 84] (by decide +kernel) (by decide +kernel)
set_option maxRecDepth 20000 in
theorem gX11_image_X5_become : GoodIn wsX11_image (wsV RX11 158 RX5 yX5_become wsX5_become) := goodIn_app (goodIn_of _ (by decide +kernel)) ggX11_image_X5_become
theorem dX11_image_0 : decode cX11_image 0 = .ok (.aload_n 0, 1) := by decide +kernel
theorem dX11_image_1 : decode cX11_image 1 = .ok (.iload_n 1, 1) := by decide +kernel
theorem dX11_image_2 : decode cX11_image 2 = .ok (.invokevirtual 278, 3) := by decide +kernel
theorem dX11_image_5 : decode cX11_image 5 = .ok (.ifCond .ne 10, 3) := by decide +kernel
theorem dX11_image_8 : decode cX11_image 8 = .ok (.aload_n 0, 1) := by decide +kernel
theorem dX11_image_9 : decode cX11_image 9 = .ok (.bipush (-2), 2) := by decide +kernel
theorem dX11_image_11 : decode cX11_image 11 = .ok (.invokevirtual 99, 3) := by decide +kernel
theorem dX11_image_14 : decode cX11_image 14 = .ok (.ireturn, 1) := by decide +kernel
theorem dX11_image_15 : decode cX11_image 15 = .ok (.aload_n 0, 1) := by decide +kernel
theorem dX11_image_16 : decode cX11_image 16 = .ok (.getfield 11, 3) := by decide +kernel
theorem dX11_image_19 : decode cX11_image 19 = .ok (.iload_n 1, 1) := by decide +kernel
theorem dX11_image_20 : decode cX11_image 20 = .ok (.aaload, 1) := by decide +kernel
theorem dX11_image_21 : decode cX11_image 21 = .ok (.ifnonnull 20, 3) := by decide +kernel
theorem dX11_image_24 : decode cX11_image 24 = .ok (.aload_n 0, 1) := by decide +kernel
theorem dX11_image_25 : decode cX11_image 25 = .ok (.getfield 11, 3) := by decide +kernel
theorem dX11_image_28 : decode cX11_image 28 = .ok (.iload_n 1, 1) := by decide +kernel
theorem dX11_image_29 : decode cX11_image 29 = .ok (.new 9, 3) := by decide +kernel
theorem dX11_image_32 : decode cX11_image 32 = .ok (.dup, 1) := by decide +kernel
theorem dX11_image_33 : decode cX11_image 33 = .ok (.aload_n 0, 1) := by decide +kernel
theorem dX11_image_34 : decode cX11_image 34 = .ok (.getfield 81, 3) := by decide +kernel
theorem dX11_image_37 : decode cX11_image 37 = .ok (.invokespecial 85, 3) := by decide +kernel
theorem dX11_image_40 : decode cX11_image 40 = .ok (.aastore, 1) := by decide +kernel
theorem dX11_image_41 : decode cX11_image 41 = .ok (.aload_n 0, 1) := by decide +kernel
theorem dX11_image_42 : decode cX11_image 42 = .ok (.getfield 11, 3) := by decide +kernel
theorem dX11_image_45 : decode cX11_image 45 = .ok (.iload_n 1, 1) := by decide +kernel
theorem dX11_image_46 : decode cX11_image 46 = .ok (.aaload, 1) := by decide +kernel
theorem dX11_image_47 : decode cX11_image 47 = .ok (.aload_n 0, 1) := by decide +kernel
theorem dX11_image_48 : decode cX11_image 48 = .ok (.getfield 88, 3) := by decide +kernel
theorem dX11_image_51 : decode cX11_image 51 = .ok (.invokevirtual 158, 3) := by decide +kernel
theorem dX11_image_54 : decode cX11_image 54 = .ok (.iconst 1, 1) := by decide +kernel
theorem dX11_image_55 : decode cX11_image 55 = .ok (.ireturn, 1) := by decide +kernel
set_option maxRecDepth 20000 in
theorem ggX11_from_X11_isImage : GoodIn wsX11_from wsX11_isImage := goodIn_r _ [7, 1, 38, 39, 40, 41, 42, 43, 44, 45, 46, 47, 48, 49, 50, 51, 52] (by decide +kernel) (by decide +kernel)
set_option maxRecDepth 20000 in
theorem gX11_from_X11_isImage : GoodIn wsX11_from (wsV RX11 278 RX11 yX11_isImage wsX11_isImage) := goodIn_app (goodIn_of _ (by decide +kernel)) ggX11_from_X11_isImage
set_option maxRecDepth 20000 in
theorem ggX11_from_X11_counted : GoodIn wsX11_from wsX11_counted := goodIn_r _ [11, 12, 13, 14, 38, 39, 40, 41, 42, 43, 44, 45, 46, 47, 48, 49, 50, 51, 52] (by decide +kernel) (by decide +kernel)
set_option maxRecDepth 20000 in
theorem gX11_from_X11_counted : GoodIn wsX11_from (wsV RX11 99 RX11 yX11_counted wsX11_counted) := goodIn_app (goodIn_of _ (by decide +kernel)) ggX11_from_X11_counted
set_option maxRecDepth 20000 in
theorem ggX11_from_X5_become : GoodIn wsX11_from wsX5_become := goodIn_r _ [19, 20, 21, 22, 23, 24, 25, 26, 27, 28, 29, 30, 31, 32, 33, 34, 35, 36, 37, 53, 54, 55, 56, 57, 58, 59, 60, 61, 62, 63] (by decide +kernel) (by decide +kernel)
set_option maxRecDepth 20000 in
theorem gX11_from_X5_become : GoodIn wsX11_from (wsV RX11 158 RX5 yX5_become wsX5_become) := goodIn_app (goodIn_of _ (by decide +kernel)) ggX11_from_X5_become
theorem dX11_from_0 : decode cX11_from 0 = .ok (.aload_n 0, 1) := by decide +kernel
theorem dX11_from_1 : decode cX11_from 1 = .ok (.iload_n 1, 1) := by decide +kernel
theorem dX11_from_2 : decode cX11_from 2 = .ok (.invokevirtual 278, 3) := by decide +kernel
theorem dX11_from_5 : decode cX11_from 5 = .ok (.ifCond .ne 10, 3) := by decide +kernel
theorem dX11_from_8 : decode cX11_from 8 = .ok (.aload_n 0, 1) := by decide +kernel
theorem dX11_from_9 : decode cX11_from 9 = .ok (.bipush (-2), 2) := by decide +kernel
theorem dX11_from_11 : decode cX11_from 11 = .ok (.invokevirtual 99, 3) := by decide +kernel
theorem dX11_from_14 : decode cX11_from 14 = .ok (.ireturn, 1) := by decide +kernel
theorem dX11_from_15 : decode cX11_from 15 = .ok (.aload_n 0, 1) := by decide +kernel
theorem dX11_from_16 : decode cX11_from 16 = .ok (.getfield 11, 3) := by decide +kernel
theorem dX11_from_19 : decode cX11_from 19 = .ok (.iload_n 1, 1) := by decide +kernel
theorem dX11_from_20 : decode cX11_from 20 = .ok (.aaload, 1) := by decide +kernel
theorem dX11_from_21 : decode cX11_from 21 = .ok (.ifnonnull 10, 3) := by decide +kernel
theorem dX11_from_24 : decode cX11_from 24 = .ok (.aload_n 0, 1) := by decide +kernel
theorem dX11_from_25 : decode cX11_from 25 = .ok (.bipush (-3), 2) := by decide +kernel
theorem dX11_from_27 : decode cX11_from 27 = .ok (.invokevirtual 99, 3) := by decide +kernel
theorem dX11_from_30 : decode cX11_from 30 = .ok (.ireturn, 1) := by decide +kernel
theorem dX11_from_31 : decode cX11_from 31 = .ok (.aload_n 0, 1) := by decide +kernel
theorem dX11_from_32 : decode cX11_from 32 = .ok (.getfield 88, 3) := by decide +kernel
theorem dX11_from_35 : decode cX11_from 35 = .ok (.aload_n 0, 1) := by decide +kernel
theorem dX11_from_36 : decode cX11_from 36 = .ok (.getfield 11, 3) := by decide +kernel
theorem dX11_from_39 : decode cX11_from 39 = .ok (.iload_n 1, 1) := by decide +kernel
theorem dX11_from_40 : decode cX11_from 40 = .ok (.aaload, 1) := by decide +kernel
theorem dX11_from_41 : decode cX11_from 41 = .ok (.invokevirtual 158, 3) := by decide +kernel
theorem dX11_from_44 : decode cX11_from 44 = .ok (.iconst 1, 1) := by decide +kernel
theorem dX11_from_45 : decode cX11_from 45 = .ok (.ireturn, 1) := by decide +kernel
set_option maxRecDepth 20000 in
theorem ggX11_status_X11_badAs : GoodIn wsX11_status wsX11_badAs := goodIn_r _ [8, 1, 9, 10, 11, 12, 13, 14, 15, 16, 17, 18, 19, 20, 21, 22, 23] (by decide +kernel) (by decide +kernel)
set_option maxRecDepth 20000 in
theorem gX11_status_X11_badAs : GoodIn wsX11_status (wsV RX11 168 RX11 yX11_badAs wsX11_badAs) := goodIn_app (goodIn_of _ (by decide +kernel)) ggX11_status_X11_badAs
theorem dX11_status_0 : decode cX11_status 0 = .ok (.iload_n 1, 1) := by decide +kernel
theorem dX11_status_1 : decode cX11_status 1 = .ok (.tableswitch 42 0 2 #[27, 32, 37], 27) := by decide +kernel
theorem dX11_status_28 : decode cX11_status 28 = .ok (.aload_n 0, 1) := by decide +kernel
theorem dX11_status_29 : decode cX11_status 29 = .ok (.getfield 53, 3) := by decide +kernel
theorem dX11_status_32 : decode cX11_status 32 = .ok (.ireturn, 1) := by decide +kernel
theorem dX11_status_33 : decode cX11_status 33 = .ok (.aload_n 0, 1) := by decide +kernel
theorem dX11_status_34 : decode cX11_status 34 = .ok (.getfield 57, 3) := by decide +kernel
theorem dX11_status_37 : decode cX11_status 37 = .ok (.ireturn, 1) := by decide +kernel
theorem dX11_status_38 : decode cX11_status 38 = .ok (.aload_n 0, 1) := by decide +kernel
theorem dX11_status_39 : decode cX11_status 39 = .ok (.getfield 60, 3) := by decide +kernel
theorem dX11_status_42 : decode cX11_status 42 = .ok (.ireturn, 1) := by decide +kernel
theorem dX11_status_43 : decode cX11_status 43 = .ok (.aload_n 0, 1) := by decide +kernel
theorem dX11_status_44 : decode cX11_status 44 = .ok (.iconst (-1), 1) := by decide +kernel
theorem dX11_status_45 : decode cX11_status 45 = .ok (.invokevirtual 168, 3) := by decide +kernel
theorem dX11_status_48 : decode cX11_status 48 = .ok (.ireturn, 1) := by decide +kernel
set_option maxRecDepth 20000 in
theorem ggX11_count_X7_size : GoodIn wsX11_count wsX7_size := goodIn_r _ [7, 8, 45, 46, 47, 48] (by decide +kernel) (by decide +kernel)
set_option maxRecDepth 20000 in
theorem gX11_count_X7_size : GoodIn wsX11_count (wsV RX11 113 RX7 yX7_size wsX7_size) := goodIn_app (goodIn_of _ (by decide +kernel)) ggX11_count_X7_size
set_option maxRecDepth 20000 in
theorem ggX11_count_X6_size : GoodIn wsX11_count wsX6_size := goodIn_r _ [13, 14, 49, 50, 51, 52, 53] (by decide +kernel) (by decide +kernel)
set_option maxRecDepth 20000 in
theorem gX11_count_X6_size : GoodIn wsX11_count (wsV RX11 138 RX6 yX6_size wsX6_size) := goodIn_app (goodIn_of _ (by decide +kernel)) ggX11_count_X6_size
set_option maxRecDepth 20000 in
theorem ggX11_count_X11_counted : GoodIn wsX11_count wsX11_counted := goodIn_r _ [19, 20, 21, 22, 23, 24, 25, 26, 27, 28, 29, 30, 31, 32, 33, 34, 35, 36, 37] (by decide +kernel) (by decide +kernel)
set_option maxRecDepth 20000 in
theorem gX11_count_X11_counted : GoodIn wsX11_count (wsV RX11 99 RX11 yX11_counted wsX11_counted) := goodIn_app (goodIn_of _ (by decide +kernel)) ggX11_count_X11_counted
theorem dX11_count_0 : decode cX11_count 0 = .ok (.iload_n 1, 1) := by decide +kernel
theorem dX11_count_1 : decode cX11_count 1 = .ok (.tableswitch 87 0 4 #[35, 46, 57, 68, 79], 35) := by decide +kernel
theorem dX11_count_36 : decode cX11_count 36 = .ok (.aload_n 0, 1) := by decide +kernel
theorem dX11_count_37 : decode cX11_count 37 = .ok (.getfield 88, 3) := by decide +kernel
theorem dX11_count_40 : decode cX11_count 40 = .ok (.getfield 109, 3) := by decide +kernel
theorem dX11_count_43 : decode cX11_count 43 = .ok (.invokevirtual 113, 3) := by decide +kernel
theorem dX11_count_46 : decode cX11_count 46 = .ok (.ireturn, 1) := by decide +kernel
theorem dX11_count_47 : decode cX11_count 47 = .ok (.aload_n 0, 1) := by decide +kernel
theorem dX11_count_48 : decode cX11_count 48 = .ok (.getfield 88, 3) := by decide +kernel
theorem dX11_count_51 : decode cX11_count 51 = .ok (.getfield 181, 3) := by decide +kernel
theorem dX11_count_54 : decode cX11_count 54 = .ok (.invokevirtual 113, 3) := by decide +kernel
theorem dX11_count_57 : decode cX11_count 57 = .ok (.ireturn, 1) := by decide +kernel
theorem dX11_count_58 : decode cX11_count 58 = .ok (.aload_n 0, 1) := by decide +kernel
theorem dX11_count_59 : decode cX11_count 59 = .ok (.getfield 88, 3) := by decide +kernel
theorem dX11_count_62 : decode cX11_count 62 = .ok (.getfield 222, 3) := by decide +kernel
theorem dX11_count_65 : decode cX11_count 65 = .ok (.invokevirtual 113, 3) := by decide +kernel
theorem dX11_count_68 : decode cX11_count 68 = .ok (.ireturn, 1) := by decide +kernel
theorem dX11_count_69 : decode cX11_count 69 = .ok (.aload_n 0, 1) := by decide +kernel
theorem dX11_count_70 : decode cX11_count 70 = .ok (.getfield 88, 3) := by decide +kernel
theorem dX11_count_73 : decode cX11_count 73 = .ok (.getfield 252, 3) := by decide +kernel
theorem dX11_count_76 : decode cX11_count 76 = .ok (.invokevirtual 113, 3) := by decide +kernel
theorem dX11_count_79 : decode cX11_count 79 = .ok (.ireturn, 1) := by decide +kernel
theorem dX11_count_80 : decode cX11_count 80 = .ok (.aload_n 0, 1) := by decide +kernel
theorem dX11_count_81 : decode cX11_count 81 = .ok (.getfield 18, 3) := by decide +kernel
theorem dX11_count_84 : decode cX11_count 84 = .ok (.invokevirtual 138, 3) := by decide +kernel
theorem dX11_count_87 : decode cX11_count 87 = .ok (.ireturn, 1) := by decide +kernel
theorem dX11_count_88 : decode cX11_count 88 = .ok (.aload_n 0, 1) := by decide +kernel
theorem dX11_count_89 : decode cX11_count 89 = .ok (.bipush (-2), 2) := by decide +kernel
theorem dX11_count_91 : decode cX11_count 91 = .ok (.invokevirtual 99, 3) := by decide +kernel
theorem dX11_count_94 : decode cX11_count 94 = .ok (.ireturn, 1) := by decide +kernel
set_option maxRecDepth 20000 in
theorem ggX11_digest_X7_size : GoodIn wsX11_digest wsX7_size := goodIn_r _ [11, 12, 52, 53, 54, 55] (by decide +kernel) (by decide +kernel)
set_option maxRecDepth 20000 in
theorem gX11_digest_X7_size : GoodIn wsX11_digest (wsV RX11 113 RX7 yX7_size wsX7_size) := goodIn_app (goodIn_of _ (by decide +kernel)) ggX11_digest_X7_size
set_option maxRecDepth 20000 in
theorem ggX11_digest_X6_size : GoodIn wsX11_digest wsX6_size := goodIn_r _ [17, 18, 56, 57, 58, 59, 60] (by decide +kernel) (by decide +kernel)
set_option maxRecDepth 20000 in
theorem gX11_digest_X6_size : GoodIn wsX11_digest (wsV RX11 138 RX6 yX6_size wsX6_size) := goodIn_app (goodIn_of _ (by decide +kernel)) ggX11_digest_X6_size
set_option maxRecDepth 20000 in
theorem ggX11_digest_X7_mixedInto : GoodIn wsX11_digest wsX7_mixedInto := goodIn_r _ [22, 12, 23, 24, 25, 26, 27, 28, 29, 52, 53, 54, 55] (by decide +kernel) (by decide +kernel)
set_option maxRecDepth 20000 in
theorem gX11_digest_X7_mixedInto : GoodIn wsX11_digest (wsV RX11 285 RX7 yX7_mixedInto wsX7_mixedInto) := goodIn_app (goodIn_of _ (by decide +kernel)) ggX11_digest_X7_mixedInto
theorem dX11_digest_0 : decode cX11_digest 0 = .ok (.ldc2_w 281, 3) := by decide +kernel
theorem dX11_digest_3 : decode cX11_digest 3 = .ok (.lstore_n 1, 1) := by decide +kernel
theorem dX11_digest_4 : decode cX11_digest 4 = .ok (.ldc2_w 283, 3) := by decide +kernel
theorem dX11_digest_7 : decode cX11_digest 7 = .ok (.lload_n 1, 1) := by decide +kernel
theorem dX11_digest_8 : decode cX11_digest 8 = .ok (.lmul, 1) := by decide +kernel
theorem dX11_digest_9 : decode cX11_digest 9 = .ok (.aload_n 0, 1) := by decide +kernel
theorem dX11_digest_10 : decode cX11_digest 10 = .ok (.getfield 88, 3) := by decide +kernel
theorem dX11_digest_13 : decode cX11_digest 13 = .ok (.getfield 109, 3) := by decide +kernel
theorem dX11_digest_16 : decode cX11_digest 16 = .ok (.invokevirtual 113, 3) := by decide +kernel
theorem dX11_digest_19 : decode cX11_digest 19 = .ok (.i2l, 1) := by decide +kernel
theorem dX11_digest_20 : decode cX11_digest 20 = .ok (.ladd, 1) := by decide +kernel
theorem dX11_digest_21 : decode cX11_digest 21 = .ok (.lstore_n 1, 1) := by decide +kernel
theorem dX11_digest_22 : decode cX11_digest 22 = .ok (.ldc2_w 283, 3) := by decide +kernel
theorem dX11_digest_25 : decode cX11_digest 25 = .ok (.lload_n 1, 1) := by decide +kernel
theorem dX11_digest_26 : decode cX11_digest 26 = .ok (.lmul, 1) := by decide +kernel
theorem dX11_digest_27 : decode cX11_digest 27 = .ok (.aload_n 0, 1) := by decide +kernel
theorem dX11_digest_28 : decode cX11_digest 28 = .ok (.getfield 88, 3) := by decide +kernel
theorem dX11_digest_31 : decode cX11_digest 31 = .ok (.getfield 181, 3) := by decide +kernel
theorem dX11_digest_34 : decode cX11_digest 34 = .ok (.invokevirtual 113, 3) := by decide +kernel
theorem dX11_digest_37 : decode cX11_digest 37 = .ok (.i2l, 1) := by decide +kernel
theorem dX11_digest_38 : decode cX11_digest 38 = .ok (.ladd, 1) := by decide +kernel
theorem dX11_digest_39 : decode cX11_digest 39 = .ok (.lstore_n 1, 1) := by decide +kernel
theorem dX11_digest_40 : decode cX11_digest 40 = .ok (.ldc2_w 283, 3) := by decide +kernel
theorem dX11_digest_43 : decode cX11_digest 43 = .ok (.lload_n 1, 1) := by decide +kernel
theorem dX11_digest_44 : decode cX11_digest 44 = .ok (.lmul, 1) := by decide +kernel
theorem dX11_digest_45 : decode cX11_digest 45 = .ok (.aload_n 0, 1) := by decide +kernel
theorem dX11_digest_46 : decode cX11_digest 46 = .ok (.getfield 88, 3) := by decide +kernel
theorem dX11_digest_49 : decode cX11_digest 49 = .ok (.getfield 222, 3) := by decide +kernel
theorem dX11_digest_52 : decode cX11_digest 52 = .ok (.invokevirtual 113, 3) := by decide +kernel
theorem dX11_digest_55 : decode cX11_digest 55 = .ok (.i2l, 1) := by decide +kernel
theorem dX11_digest_56 : decode cX11_digest 56 = .ok (.ladd, 1) := by decide +kernel
theorem dX11_digest_57 : decode cX11_digest 57 = .ok (.lstore_n 1, 1) := by decide +kernel
theorem dX11_digest_58 : decode cX11_digest 58 = .ok (.ldc2_w 283, 3) := by decide +kernel
theorem dX11_digest_61 : decode cX11_digest 61 = .ok (.lload_n 1, 1) := by decide +kernel
theorem dX11_digest_62 : decode cX11_digest 62 = .ok (.lmul, 1) := by decide +kernel
theorem dX11_digest_63 : decode cX11_digest 63 = .ok (.aload_n 0, 1) := by decide +kernel
theorem dX11_digest_64 : decode cX11_digest 64 = .ok (.getfield 88, 3) := by decide +kernel
theorem dX11_digest_67 : decode cX11_digest 67 = .ok (.getfield 252, 3) := by decide +kernel
theorem dX11_digest_70 : decode cX11_digest 70 = .ok (.invokevirtual 113, 3) := by decide +kernel
theorem dX11_digest_73 : decode cX11_digest 73 = .ok (.i2l, 1) := by decide +kernel
theorem dX11_digest_74 : decode cX11_digest 74 = .ok (.ladd, 1) := by decide +kernel
theorem dX11_digest_75 : decode cX11_digest 75 = .ok (.lstore_n 1, 1) := by decide +kernel
theorem dX11_digest_76 : decode cX11_digest 76 = .ok (.ldc2_w 283, 3) := by decide +kernel
theorem dX11_digest_79 : decode cX11_digest 79 = .ok (.lload_n 1, 1) := by decide +kernel
theorem dX11_digest_80 : decode cX11_digest 80 = .ok (.lmul, 1) := by decide +kernel
theorem dX11_digest_81 : decode cX11_digest 81 = .ok (.aload_n 0, 1) := by decide +kernel
theorem dX11_digest_82 : decode cX11_digest 82 = .ok (.getfield 18, 3) := by decide +kernel
theorem dX11_digest_85 : decode cX11_digest 85 = .ok (.invokevirtual 138, 3) := by decide +kernel
theorem dX11_digest_88 : decode cX11_digest 88 = .ok (.i2l, 1) := by decide +kernel
theorem dX11_digest_89 : decode cX11_digest 89 = .ok (.ladd, 1) := by decide +kernel
theorem dX11_digest_90 : decode cX11_digest 90 = .ok (.lstore_n 1, 1) := by decide +kernel
theorem dX11_digest_91 : decode cX11_digest 91 = .ok (.ldc2_w 283, 3) := by decide +kernel
theorem dX11_digest_94 : decode cX11_digest 94 = .ok (.lload_n 1, 1) := by decide +kernel
theorem dX11_digest_95 : decode cX11_digest 95 = .ok (.lmul, 1) := by decide +kernel
theorem dX11_digest_96 : decode cX11_digest 96 = .ok (.aload_n 0, 1) := by decide +kernel
theorem dX11_digest_97 : decode cX11_digest 97 = .ok (.getfield 88, 3) := by decide +kernel
theorem dX11_digest_100 : decode cX11_digest 100 = .ok (.getfield 187, 3) := by decide +kernel
theorem dX11_digest_103 : decode cX11_digest 103 = .ok (.i2l, 1) := by decide +kernel
theorem dX11_digest_104 : decode cX11_digest 104 = .ok (.ladd, 1) := by decide +kernel
theorem dX11_digest_105 : decode cX11_digest 105 = .ok (.lstore_n 1, 1) := by decide +kernel
theorem dX11_digest_106 : decode cX11_digest 106 = .ok (.ldc2_w 283, 3) := by decide +kernel
theorem dX11_digest_109 : decode cX11_digest 109 = .ok (.lload_n 1, 1) := by decide +kernel
theorem dX11_digest_110 : decode cX11_digest 110 = .ok (.lmul, 1) := by decide +kernel
theorem dX11_digest_111 : decode cX11_digest 111 = .ok (.aload_n 0, 1) := by decide +kernel
theorem dX11_digest_112 : decode cX11_digest 112 = .ok (.getfield 88, 3) := by decide +kernel
theorem dX11_digest_115 : decode cX11_digest 115 = .ok (.getfield 190, 3) := by decide +kernel
theorem dX11_digest_118 : decode cX11_digest 118 = .ok (.i2l, 1) := by decide +kernel
theorem dX11_digest_119 : decode cX11_digest 119 = .ok (.ladd, 1) := by decide +kernel
theorem dX11_digest_120 : decode cX11_digest 120 = .ok (.lstore_n 1, 1) := by decide +kernel
theorem dX11_digest_121 : decode cX11_digest 121 = .ok (.aload_n 0, 1) := by decide +kernel
theorem dX11_digest_122 : decode cX11_digest 122 = .ok (.getfield 88, 3) := by decide +kernel
theorem dX11_digest_125 : decode cX11_digest 125 = .ok (.getfield 109, 3) := by decide +kernel
theorem dX11_digest_128 : decode cX11_digest 128 = .ok (.lload_n 1, 1) := by decide +kernel
theorem dX11_digest_129 : decode cX11_digest 129 = .ok (.invokevirtual 285, 3) := by decide +kernel
theorem dX11_digest_132 : decode cX11_digest 132 = .ok (.lstore_n 1, 1) := by decide +kernel
theorem dX11_digest_133 : decode cX11_digest 133 = .ok (.aload_n 0, 1) := by decide +kernel
theorem dX11_digest_134 : decode cX11_digest 134 = .ok (.getfield 88, 3) := by decide +kernel
theorem dX11_digest_137 : decode cX11_digest 137 = .ok (.getfield 181, 3) := by decide +kernel
theorem dX11_digest_140 : decode cX11_digest 140 = .ok (.lload_n 1, 1) := by decide +kernel
theorem dX11_digest_141 : decode cX11_digest 141 = .ok (.invokevirtual 285, 3) := by decide +kernel
theorem dX11_digest_144 : decode cX11_digest 144 = .ok (.lstore_n 1, 1) := by decide +kernel
theorem dX11_digest_145 : decode cX11_digest 145 = .ok (.aload_n 0, 1) := by decide +kernel
theorem dX11_digest_146 : decode cX11_digest 146 = .ok (.getfield 88, 3) := by decide +kernel
theorem dX11_digest_149 : decode cX11_digest 149 = .ok (.getfield 222, 3) := by decide +kernel
theorem dX11_digest_152 : decode cX11_digest 152 = .ok (.lload_n 1, 1) := by decide +kernel
theorem dX11_digest_153 : decode cX11_digest 153 = .ok (.invokevirtual 285, 3) := by decide +kernel
theorem dX11_digest_156 : decode cX11_digest 156 = .ok (.lstore_n 1, 1) := by decide +kernel
theorem dX11_digest_157 : decode cX11_digest 157 = .ok (.aload_n 0, 1) := by decide +kernel
theorem dX11_digest_158 : decode cX11_digest 158 = .ok (.getfield 88, 3) := by decide +kernel
theorem dX11_digest_161 : decode cX11_digest 161 = .ok (.getfield 252, 3) := by decide +kernel
theorem dX11_digest_164 : decode cX11_digest 164 = .ok (.lload_n 1, 1) := by decide +kernel
theorem dX11_digest_165 : decode cX11_digest 165 = .ok (.invokevirtual 285, 3) := by decide +kernel
theorem dX11_digest_168 : decode cX11_digest 168 = .ok (.lstore_n 1, 1) := by decide +kernel
theorem dX11_digest_169 : decode cX11_digest 169 = .ok (.ldc2_w 283, 3) := by decide +kernel
theorem dX11_digest_172 : decode cX11_digest 172 = .ok (.lload_n 1, 1) := by decide +kernel
theorem dX11_digest_173 : decode cX11_digest 173 = .ok (.lmul, 1) := by decide +kernel
theorem dX11_digest_174 : decode cX11_digest 174 = .ok (.aload_n 0, 1) := by decide +kernel
theorem dX11_digest_175 : decode cX11_digest 175 = .ok (.getfield 46, 3) := by decide +kernel
theorem dX11_digest_178 : decode cX11_digest 178 = .ok (.ladd, 1) := by decide +kernel
theorem dX11_digest_179 : decode cX11_digest 179 = .ok (.lstore_n 1, 1) := by decide +kernel
theorem dX11_digest_180 : decode cX11_digest 180 = .ok (.ldc2_w 283, 3) := by decide +kernel
theorem dX11_digest_183 : decode cX11_digest 183 = .ok (.lload_n 1, 1) := by decide +kernel
theorem dX11_digest_184 : decode cX11_digest 184 = .ok (.lmul, 1) := by decide +kernel
theorem dX11_digest_185 : decode cX11_digest 185 = .ok (.aload_n 0, 1) := by decide +kernel
theorem dX11_digest_186 : decode cX11_digest 186 = .ok (.getfield 50, 3) := by decide +kernel
theorem dX11_digest_189 : decode cX11_digest 189 = .ok (.ladd, 1) := by decide +kernel
theorem dX11_digest_190 : decode cX11_digest 190 = .ok (.lreturn, 1) := by decide +kernel
theorem dX11_within_0 : decode cX11_within 0 = .ok (.iload_n 0, 1) := by decide +kernel
theorem dX11_within_1 : decode cX11_within 1 = .ok (.iload_n 1, 1) := by decide +kernel
theorem dX11_within_2 : decode cX11_within 2 = .ok (.if_icmp .lt 12, 3) := by decide +kernel
theorem dX11_within_5 : decode cX11_within 5 = .ok (.iload_n 0, 1) := by decide +kernel
theorem dX11_within_6 : decode cX11_within 6 = .ok (.iload_n 2, 1) := by decide +kernel
theorem dX11_within_7 : decode cX11_within 7 = .ok (.if_icmp .gt 7, 3) := by decide +kernel
theorem dX11_within_10 : decode cX11_within 10 = .ok (.iconst 1, 1) := by decide +kernel
theorem dX11_within_11 : decode cX11_within 11 = .ok (.goto 4, 3) := by decide +kernel
theorem dX11_within_14 : decode cX11_within 14 = .ok (.iconst 0, 1) := by decide +kernel
theorem dX11_within_15 : decode cX11_within 15 = .ok (.ireturn, 1) := by decide +kernel
set_option maxRecDepth 20000 in
theorem ggX11_isHigh_X11_within : GoodIn wsX11_isHigh wsX11_within := goodIn_r _ [4] (by decide +kernel) (by decide +kernel)
set_option maxRecDepth 20000 in
theorem gX11_isHigh_X11_within : GoodIn wsX11_isHigh (va_wsS RX11 130 yX11_within wsX11_within) := goodIn_app (goodIn_of _ (by decide +kernel)) ggX11_isHigh_X11_within
theorem dX11_isHigh_0 : decode cX11_isHigh 0 = .ok (.iload_n 0, 1) := by decide +kernel
theorem dX11_isHigh_1 : decode cX11_isHigh 1 = .ok (.iconst 0, 1) := by decide +kernel
theorem dX11_isHigh_2 : decode cX11_isHigh 2 = .ok (.bipush 30, 2) := by decide +kernel
theorem dX11_isHigh_4 : decode cX11_isHigh 4 = .ok (.invokestatic 130, 3) := by decide +kernel
theorem dX11_isHigh_7 : decode cX11_isHigh 7 = .ok (.ireturn, 1) := by decide +kernel
set_option maxRecDepth 20000 in
theorem ggX11_isMinute_X11_within : GoodIn wsX11_isMinute wsX11_within := goodIn_r _ [4] (by decide +kernel) (by decide +kernel)
set_option maxRecDepth 20000 in
theorem gX11_isMinute_X11_within : GoodIn wsX11_isMinute (va_wsS RX11 130 yX11_within wsX11_within) := goodIn_app (goodIn_of _ (by decide +kernel)) ggX11_isMinute_X11_within
theorem dX11_isMinute_0 : decode cX11_isMinute 0 = .ok (.iload_n 0, 1) := by decide +kernel
theorem dX11_isMinute_1 : decode cX11_isMinute 1 = .ok (.iconst 0, 1) := by decide +kernel
theorem dX11_isMinute_2 : decode cX11_isMinute 2 = .ok (.bipush 99, 2) := by decide +kernel
theorem dX11_isMinute_4 : decode cX11_isMinute 4 = .ok (.invokestatic 130, 3) := by decide +kernel
theorem dX11_isMinute_7 : decode cX11_isMinute 7 = .ok (.ireturn, 1) := by decide +kernel
theorem dX11_isImage_0 : decode cX11_isImage 0 = .ok (.iload_n 1, 1) := by decide +kernel
theorem dX11_isImage_1 : decode cX11_isImage 1 = .ok (.ifCond .lt 16, 3) := by decide +kernel
theorem dX11_isImage_4 : decode cX11_isImage 4 = .ok (.iload_n 1, 1) := by decide +kernel
theorem dX11_isImage_5 : decode cX11_isImage 5 = .ok (.aload_n 0, 1) := by decide +kernel
theorem dX11_isImage_6 : decode cX11_isImage 6 = .ok (.getfield 11, 3) := by decide +kernel
theorem dX11_isImage_9 : decode cX11_isImage 9 = .ok (.arraylength, 1) := by decide +kernel
theorem dX11_isImage_10 : decode cX11_isImage 10 = .ok (.if_icmp .ge 7, 3) := by decide +kernel
theorem dX11_isImage_13 : decode cX11_isImage 13 = .ok (.iconst 1, 1) := by decide +kernel
theorem dX11_isImage_14 : decode cX11_isImage 14 = .ok (.goto 4, 3) := by decide +kernel
theorem dX11_isImage_17 : decode cX11_isImage 17 = .ok (.iconst 0, 1) := by decide +kernel
theorem dX11_isImage_18 : decode cX11_isImage 18 = .ok (.ireturn, 1) := by decide +kernel
theorem dX11_stand_0 : decode cX11_stand 0 = .ok (.iload_n 0, 1) := by decide +kernel
theorem dX11_stand_1 : decode cX11_stand 1 = .ok (.iconst 4, 1) := by decide +kernel
theorem dX11_stand_2 : decode cX11_stand 2 = .ok (.imul, 1) := by decide +kernel
theorem dX11_stand_3 : decode cX11_stand 3 = .ok (.iload_n 1, 1) := by decide +kernel
theorem dX11_stand_4 : decode cX11_stand 4 = .ok (.iadd, 1) := by decide +kernel
theorem dX11_stand_5 : decode cX11_stand 5 = .ok (.bipush (-2), 2) := by decide +kernel
theorem dX11_stand_7 : decode cX11_stand 7 = .ok (.isub, 1) := by decide +kernel
theorem dX11_stand_8 : decode cX11_stand 8 = .ok (.ireturn, 1) := by decide +kernel
theorem dX11_highOf_0 : decode cX11_highOf 0 = .ok (.iload_n 0, 1) := by decide +kernel
theorem dX11_highOf_1 : decode cX11_highOf 1 = .ok (.iconst 4, 1) := by decide +kernel
theorem dX11_highOf_2 : decode cX11_highOf 2 = .ok (.idiv, 1) := by decide +kernel
theorem dX11_highOf_3 : decode cX11_highOf 3 = .ok (.ireturn, 1) := by decide +kernel
theorem dX11_didOf_0 : decode cX11_didOf 0 = .ok (.iload_n 0, 1) := by decide +kernel
theorem dX11_didOf_1 : decode cX11_didOf 1 = .ok (.iconst 4, 1) := by decide +kernel
theorem dX11_didOf_2 : decode cX11_didOf 2 = .ok (.irem, 1) := by decide +kernel
theorem dX11_didOf_3 : decode cX11_didOf 3 = .ok (.bipush (-2), 2) := by decide +kernel
theorem dX11_didOf_5 : decode cX11_didOf 5 = .ok (.iadd, 1) := by decide +kernel
theorem dX11_didOf_6 : decode cX11_didOf 6 = .ok (.ireturn, 1) := by decide +kernel
theorem dX11_counted_0 : decode cX11_counted 0 = .ok (.iload_n 1, 1) := by decide +kernel
theorem dX11_counted_1 : decode cX11_counted 1 = .ok (.bipush (-2), 2) := by decide +kernel
theorem dX11_counted_3 : decode cX11_counted 3 = .ok (.if_icmp .ne 16, 3) := by decide +kernel
theorem dX11_counted_6 : decode cX11_counted 6 = .ok (.aload_n 0, 1) := by decide +kernel
theorem dX11_counted_7 : decode cX11_counted 7 = .ok (.dup, 1) := by decide +kernel
theorem dX11_counted_8 : decode cX11_counted 8 = .ok (.getfield 53, 3) := by decide +kernel
theorem dX11_counted_11 : decode cX11_counted 11 = .ok (.iconst 1, 1) := by decide +kernel
theorem dX11_counted_12 : decode cX11_counted 12 = .ok (.iadd, 1) := by decide +kernel
theorem dX11_counted_13 : decode cX11_counted 13 = .ok (.putfield 53, 3) := by decide +kernel
theorem dX11_counted_16 : decode cX11_counted 16 = .ok (.goto 38, 3) := by decide +kernel
theorem dX11_counted_19 : decode cX11_counted 19 = .ok (.iload_n 1, 1) := by decide +kernel
theorem dX11_counted_20 : decode cX11_counted 20 = .ok (.bipush (-3), 2) := by decide +kernel
theorem dX11_counted_22 : decode cX11_counted 22 = .ok (.if_icmp .ne 16, 3) := by decide +kernel
theorem dX11_counted_25 : decode cX11_counted 25 = .ok (.aload_n 0, 1) := by decide +kernel
theorem dX11_counted_26 : decode cX11_counted 26 = .ok (.dup, 1) := by decide +kernel
theorem dX11_counted_27 : decode cX11_counted 27 = .ok (.getfield 57, 3) := by decide +kernel
theorem dX11_counted_30 : decode cX11_counted 30 = .ok (.iconst 1, 1) := by decide +kernel
theorem dX11_counted_31 : decode cX11_counted 31 = .ok (.iadd, 1) := by decide +kernel
theorem dX11_counted_32 : decode cX11_counted 32 = .ok (.putfield 57, 3) := by decide +kernel
theorem dX11_counted_35 : decode cX11_counted 35 = .ok (.goto 19, 3) := by decide +kernel
theorem dX11_counted_38 : decode cX11_counted 38 = .ok (.iload_n 1, 1) := by decide +kernel
theorem dX11_counted_39 : decode cX11_counted 39 = .ok (.bipush (-4), 2) := by decide +kernel
theorem dX11_counted_41 : decode cX11_counted 41 = .ok (.if_icmp .ne 13, 3) := by decide +kernel
theorem dX11_counted_44 : decode cX11_counted 44 = .ok (.aload_n 0, 1) := by decide +kernel
theorem dX11_counted_45 : decode cX11_counted 45 = .ok (.dup, 1) := by decide +kernel
theorem dX11_counted_46 : decode cX11_counted 46 = .ok (.getfield 60, 3) := by decide +kernel
theorem dX11_counted_49 : decode cX11_counted 49 = .ok (.iconst 1, 1) := by decide +kernel
theorem dX11_counted_50 : decode cX11_counted 50 = .ok (.iadd, 1) := by decide +kernel
theorem dX11_counted_51 : decode cX11_counted 51 = .ok (.putfield 60, 3) := by decide +kernel
theorem dX11_counted_54 : decode cX11_counted 54 = .ok (.iload_n 1, 1) := by decide +kernel
theorem dX11_counted_55 : decode cX11_counted 55 = .ok (.ireturn, 1) := by decide +kernel
theorem dX11_badAs_0 : decode cX11_badAs 0 = .ok (.aload_n 0, 1) := by decide +kernel
theorem dX11_badAs_1 : decode cX11_badAs 1 = .ok (.dup, 1) := by decide +kernel
theorem dX11_badAs_2 : decode cX11_badAs 2 = .ok (.getfield 53, 3) := by decide +kernel
theorem dX11_badAs_5 : decode cX11_badAs 5 = .ok (.iconst 1, 1) := by decide +kernel
theorem dX11_badAs_6 : decode cX11_badAs 6 = .ok (.iadd, 1) := by decide +kernel
theorem dX11_badAs_7 : decode cX11_badAs 7 = .ok (.putfield 53, 3) := by decide +kernel
theorem dX11_badAs_10 : decode cX11_badAs 10 = .ok (.iload_n 1, 1) := by decide +kernel
theorem dX11_badAs_11 : decode cX11_badAs 11 = .ok (.ireturn, 1) := by decide +kernel
set_option maxRecDepth 20000 in
theorem ggX11_tellItem_X6_numberOf : GoodIn wsX11_tellItem wsX6_numberOf := goodIn_r _ [7, 8, 9, 10, 11, 12, 13, 14, 15, 94, 95, 96, 97, 98, 99, 100, 101, 102] (by decide +kernel) (by decide +kernel)
set_option maxRecDepth 20000 in
theorem gX11_tellItem_X6_numberOf : GoodIn wsX11_tellItem (wsV RX11 289 RX6 yX6_numberOf wsX6_numberOf) := goodIn_app (goodIn_of _ (by decide +kernel)) ggX11_tellItem_X6_numberOf
set_option maxRecDepth 20000 in
theorem ggX11_tellItem_X6_sortOf : GoodIn wsX11_tellItem wsX6_sortOf := goodIn_r _ [19, 8, 9, 10, 11, 12, 13, 14, 15, 94, 95, 96, 97, 98, 99, 100, 101, 102] (by decide +kernel) (by decide +kernel)
set_option maxRecDepth 20000 in
theorem gX11_tellItem_X6_sortOf : GoodIn wsX11_tellItem (wsV RX11 292 RX6 yX6_sortOf wsX6_sortOf) := goodIn_app (goodIn_of _ (by decide +kernel)) ggX11_tellItem_X6_sortOf
set_option maxRecDepth 20000 in
theorem ggX11_tellItem_X5_setHigh : GoodIn wsX11_tellItem wsX5_setHigh := goodIn_r _ [24, 25, 26, 27, 28, 29, 30, 31, 103, 104, 105, 106, 107, 108, 109] (by decide +kernel) (by decide +kernel)
set_option maxRecDepth 20000 in
theorem gX11_tellItem_X5_setHigh : GoodIn wsX11_tellItem (wsV RX11 95 RX5 yX5_setHigh wsX5_setHigh) := goodIn_app (goodIn_of _ (by decide +kernel)) ggX11_tellItem_X5_setHigh
set_option maxRecDepth 20000 in
theorem ggX11_tellItem_X5_addPasser : GoodIn wsX11_tellItem wsX5_addPasser := goodIn_r _ [35, 36, 37, 38, 27, 39, 29, 30, 31, 40, 41, 42, 12, 43, 44, 45, 10, 11, 13, 14, 15, 26, 28, 46, 47, 48, 49, 50, 51, 52, 53, 54, 55, 56, 57, 58, 103, 104, 105, 106, 107, 108, 109, 99, 100, 101, 102] (by decide +kernel) (by decide +kernel)
set_option maxRecDepth 20000 in
theorem gX11_tellItem_X5_addPasser : GoodIn wsX11_tellItem (wsV RX11 105 RX5 yX5_addPasser wsX5_addPasser) := goodIn_app (goodIn_of _ (by decide +kernel)) ggX11_tellItem_X5_addPasser
set_option maxRecDepth 20000 in
theorem ggX11_tellItem_X5_addBeast : GoodIn wsX11_tellItem wsX5_addBeast := goodIn_r _ [62, 63, 38, 27, 39, 29, 30, 31, 26, 28, 46, 47, 48, 12, 49, 44, 50, 51, 52, 53, 54, 55, 56, 57, 58, 14, 15, 103, 104, 105, 106, 107, 108, 109, 99, 100, 101, 102] (by decide +kernel) (by decide +kernel)
set_option maxRecDepth 20000 in
theorem gX11_tellItem_X5_addBeast : GoodIn wsX11_tellItem (wsV RX11 122 RX5 yX5_addBeast wsX5_addBeast) := goodIn_app (goodIn_of _ (by decide +kernel)) ggX11_tellItem_X5_addBeast
set_option maxRecDepth 20000 in
theorem ggX11_tellItem_X5_addCheck : GoodIn wsX11_tellItem wsX5_addCheck := goodIn_r _ [67, 68, 38, 27, 39, 29, 30, 31, 40, 41, 42, 12, 43, 44, 45, 10, 11, 13, 14, 15, 26, 28, 46, 47, 48, 49, 50, 51, 52, 53, 54, 55, 56, 57, 58, 103, 104, 105, 106, 107, 108, 109, 99, 100, 101, 102] (by decide +kernel) (by decide +kernel)
set_option maxRecDepth 20000 in
theorem gX11_tellItem_X5_addCheck : GoodIn wsX11_tellItem (wsV RX11 219 RX5 yX5_addCheck wsX5_addCheck) := goodIn_app (goodIn_of _ (by decide +kernel)) ggX11_tellItem_X5_addCheck
set_option maxRecDepth 20000 in
theorem ggX11_tellItem_X5_addLook : GoodIn wsX11_tellItem wsX5_addLook := goodIn_r _ [72, 73, 38, 27, 39, 29, 30, 31, 40, 41, 42, 12, 43, 44, 45, 10, 11, 13, 14, 15, 26, 28, 46, 47, 48, 49, 50, 51, 52, 53, 54, 55, 56, 57, 58, 103, 104, 105, 106, 107, 108, 109, 99, 100, 101, 102] (by decide +kernel) (by decide +kernel)
set_option maxRecDepth 20000 in
theorem gX11_tellItem_X5_addLook : GoodIn wsX11_tellItem (wsV RX11 246 RX5 yX5_addLook wsX5_addLook) := goodIn_app (goodIn_of _ (by decide +kernel)) ggX11_tellItem_X5_addLook
set_option maxRecDepth 20000 in
theorem ggX11_tellItem_X5_setLow : GoodIn wsX11_tellItem wsX5_setLow := goodIn_r _ [77, 78, 26, 27, 28, 29, 30, 31, 103, 104, 105, 106, 107, 108, 109] (by decide +kernel) (by decide +kernel)
set_option maxRecDepth 20000 in
theorem gX11_tellItem_X5_setLow : GoodIn wsX11_tellItem (wsV RX11 102 RX5 yX5_setLow wsX5_setLow) := goodIn_app (goodIn_of _ (by decide +kernel)) ggX11_tellItem_X5_setLow
theorem dX11_tellItem_0 : decode cX11_tellItem 0 = .ok (.aload_n 0, 1) := by decide +kernel
theorem dX11_tellItem_1 : decode cX11_tellItem 1 = .ok (.getfield 18, 3) := by decide +kernel
theorem dX11_tellItem_4 : decode cX11_tellItem 4 = .ok (.iload_n 1, 1) := by decide +kernel
theorem dX11_tellItem_5 : decode cX11_tellItem 5 = .ok (.iconst 0, 1) := by decide +kernel
theorem dX11_tellItem_6 : decode cX11_tellItem 6 = .ok (.invokevirtual 289, 3) := by decide +kernel
theorem dX11_tellItem_9 : decode cX11_tellItem 9 = .ok (.istore_n 2, 1) := by decide +kernel
theorem dX11_tellItem_10 : decode cX11_tellItem 10 = .ok (.aload_n 0, 1) := by decide +kernel
theorem dX11_tellItem_11 : decode cX11_tellItem 11 = .ok (.getfield 18, 3) := by decide +kernel
theorem dX11_tellItem_14 : decode cX11_tellItem 14 = .ok (.iload_n 1, 1) := by decide +kernel
theorem dX11_tellItem_15 : decode cX11_tellItem 15 = .ok (.iconst 1, 1) := by decide +kernel
theorem dX11_tellItem_16 : decode cX11_tellItem 16 = .ok (.invokevirtual 289, 3) := by decide +kernel
theorem dX11_tellItem_19 : decode cX11_tellItem 19 = .ok (.istore_n 3, 1) := by decide +kernel
theorem dX11_tellItem_20 : decode cX11_tellItem 20 = .ok (.aload_n 0, 1) := by decide +kernel
theorem dX11_tellItem_21 : decode cX11_tellItem 21 = .ok (.getfield 18, 3) := by decide +kernel
theorem dX11_tellItem_24 : decode cX11_tellItem 24 = .ok (.iload_n 1, 1) := by decide +kernel
theorem dX11_tellItem_25 : decode cX11_tellItem 25 = .ok (.iconst 2, 1) := by decide +kernel
theorem dX11_tellItem_26 : decode cX11_tellItem 26 = .ok (.invokevirtual 289, 3) := by decide +kernel
theorem dX11_tellItem_29 : decode cX11_tellItem 29 = .ok (.istore 4, 2) := by decide +kernel
theorem dX11_tellItem_31 : decode cX11_tellItem 31 = .ok (.aload_n 0, 1) := by decide +kernel
theorem dX11_tellItem_32 : decode cX11_tellItem 32 = .ok (.getfield 18, 3) := by decide +kernel
theorem dX11_tellItem_35 : decode cX11_tellItem 35 = .ok (.iload_n 1, 1) := by decide +kernel
theorem dX11_tellItem_36 : decode cX11_tellItem 36 = .ok (.invokevirtual 292, 3) := by decide +kernel
theorem dX11_tellItem_39 : decode cX11_tellItem 39 = .ok (.tableswitch 95 0 4 #[33, 42, 63, 73, 85], 33) := by decide +kernel
theorem dX11_tellItem_72 : decode cX11_tellItem 72 = .ok (.aload_n 0, 1) := by decide +kernel
theorem dX11_tellItem_73 : decode cX11_tellItem 73 = .ok (.getfield 92, 3) := by decide +kernel
theorem dX11_tellItem_76 : decode cX11_tellItem 76 = .ok (.iload_n 2, 1) := by decide +kernel
theorem dX11_tellItem_77 : decode cX11_tellItem 77 = .ok (.invokevirtual 95, 3) := by decide +kernel
theorem dX11_tellItem_80 : decode cX11_tellItem 80 = .ok (.ireturn, 1) := by decide +kernel
theorem dX11_tellItem_81 : decode cX11_tellItem 81 = .ok (.aload_n 0, 1) := by decide +kernel
theorem dX11_tellItem_82 : decode cX11_tellItem 82 = .ok (.getfield 92, 3) := by decide +kernel
theorem dX11_tellItem_85 : decode cX11_tellItem 85 = .ok (.iload_n 2, 1) := by decide +kernel
theorem dX11_tellItem_86 : decode cX11_tellItem 86 = .ok (.iload_n 3, 1) := by decide +kernel
theorem dX11_tellItem_87 : decode cX11_tellItem 87 = .ok (.iload 4, 2) := by decide +kernel
theorem dX11_tellItem_89 : decode cX11_tellItem 89 = .ok (.aload_n 0, 1) := by decide +kernel
theorem dX11_tellItem_90 : decode cX11_tellItem 90 = .ok (.getfield 18, 3) := by decide +kernel
theorem dX11_tellItem_93 : decode cX11_tellItem 93 = .ok (.iload_n 1, 1) := by decide +kernel
theorem dX11_tellItem_94 : decode cX11_tellItem 94 = .ok (.iconst 3, 1) := by decide +kernel
theorem dX11_tellItem_95 : decode cX11_tellItem 95 = .ok (.invokevirtual 289, 3) := by decide +kernel
theorem dX11_tellItem_98 : decode cX11_tellItem 98 = .ok (.invokevirtual 105, 3) := by decide +kernel
theorem dX11_tellItem_101 : decode cX11_tellItem 101 = .ok (.ireturn, 1) := by decide +kernel
theorem dX11_tellItem_102 : decode cX11_tellItem 102 = .ok (.aload_n 0, 1) := by decide +kernel
theorem dX11_tellItem_103 : decode cX11_tellItem 103 = .ok (.getfield 92, 3) := by decide +kernel
theorem dX11_tellItem_106 : decode cX11_tellItem 106 = .ok (.iload_n 2, 1) := by decide +kernel
theorem dX11_tellItem_107 : decode cX11_tellItem 107 = .ok (.iload_n 3, 1) := by decide +kernel
theorem dX11_tellItem_108 : decode cX11_tellItem 108 = .ok (.invokevirtual 122, 3) := by decide +kernel
theorem dX11_tellItem_111 : decode cX11_tellItem 111 = .ok (.ireturn, 1) := by decide +kernel
theorem dX11_tellItem_112 : decode cX11_tellItem 112 = .ok (.aload_n 0, 1) := by decide +kernel
theorem dX11_tellItem_113 : decode cX11_tellItem 113 = .ok (.getfield 92, 3) := by decide +kernel
theorem dX11_tellItem_116 : decode cX11_tellItem 116 = .ok (.iload_n 2, 1) := by decide +kernel
theorem dX11_tellItem_117 : decode cX11_tellItem 117 = .ok (.iload_n 3, 1) := by decide +kernel
theorem dX11_tellItem_118 : decode cX11_tellItem 118 = .ok (.iload 4, 2) := by decide +kernel
theorem dX11_tellItem_120 : decode cX11_tellItem 120 = .ok (.invokevirtual 219, 3) := by decide +kernel
theorem dX11_tellItem_123 : decode cX11_tellItem 123 = .ok (.ireturn, 1) := by decide +kernel
theorem dX11_tellItem_124 : decode cX11_tellItem 124 = .ok (.aload_n 0, 1) := by decide +kernel
theorem dX11_tellItem_125 : decode cX11_tellItem 125 = .ok (.getfield 92, 3) := by decide +kernel
theorem dX11_tellItem_128 : decode cX11_tellItem 128 = .ok (.iload_n 2, 1) := by decide +kernel
theorem dX11_tellItem_129 : decode cX11_tellItem 129 = .ok (.iload_n 3, 1) := by decide +kernel
theorem dX11_tellItem_130 : decode cX11_tellItem 130 = .ok (.invokevirtual 246, 3) := by decide +kernel
theorem dX11_tellItem_133 : decode cX11_tellItem 133 = .ok (.ireturn, 1) := by decide +kernel
theorem dX11_tellItem_134 : decode cX11_tellItem 134 = .ok (.aload_n 0, 1) := by decide +kernel
theorem dX11_tellItem_135 : decode cX11_tellItem 135 = .ok (.getfield 92, 3) := by decide +kernel
theorem dX11_tellItem_138 : decode cX11_tellItem 138 = .ok (.iload_n 2, 1) := by decide +kernel
theorem dX11_tellItem_139 : decode cX11_tellItem 139 = .ok (.invokevirtual 102, 3) := by decide +kernel
theorem dX11_tellItem_142 : decode cX11_tellItem 142 = .ok (.ireturn, 1) := by decide +kernel
set_option maxRecDepth 20000 in
theorem ggX11_farBehind_X5_walk : GoodIn wsX11_farBehind wsX5_walk := goodIn_r _ [10, 11, 12, 13, 14, 15, 16, 17, 18, 9, 19, 20, 21, 22, 23, 24, 25, 26, 27, 28, 29, 30, 31, 32, 33, 34, 35, 36, 37, 38, 39, 40, 41, 42, 43, 44, 45, 46, 47, 48, 49, 50, 51, 52, 53, 54, 55, 56, 57, 58, 59, 60, 61, 62, 63, 64, 65, 66, 67, 68, 69, 70, 71, 72, 73, 74, 75, 76, 77, 78, 79, 80, 81, 82, 83, 84, 85, 86, 87, 88, 89, 90, 91, 92, 93, 94, 95, 96, 113, 114, 115, 116, 117, 118, 119, 120, 121, 122, 123] (by decide +kernel) (by decide +kernel)
set_option maxRecDepth 20000 in
theorem gX11_farBehind_X5_walk : GoodIn wsX11_farBehind (wsV RX11 174 RX5 yX5_walk wsX5_walk) := goodIn_app (goodIn_of _ (by decide +kernel)) ggX11_farBehind_X5_walk
set_option maxRecDepth 20000 in
theorem ggX11_farBehind_X11_highOf : GoodIn wsX11_farBehind wsX11_highOf := goodIn_r _ [13] (by decide +kernel) (by decide +kernel)
set_option maxRecDepth 20000 in
theorem gX11_farBehind_X11_highOf : GoodIn wsX11_farBehind (va_wsS RX11 193 yX11_highOf wsX11_highOf) := goodIn_app (goodIn_of _ (by decide +kernel)) ggX11_farBehind_X11_highOf
theorem dX11_farBehind_0 : decode cX11_farBehind 0 = .ok (.aload_n 0, 1) := by decide +kernel
theorem dX11_farBehind_1 : decode cX11_farBehind 1 = .ok (.getfield 88, 3) := by decide +kernel
theorem dX11_farBehind_4 : decode cX11_farBehind 4 = .ok (.iload_n 1, 1) := by decide +kernel
theorem dX11_farBehind_5 : decode cX11_farBehind 5 = .ok (.iconst 1, 1) := by decide +kernel
theorem dX11_farBehind_6 : decode cX11_farBehind 6 = .ok (.iadd, 1) := by decide +kernel
theorem dX11_farBehind_7 : decode cX11_farBehind 7 = .ok (.iload_n 2, 1) := by decide +kernel
theorem dX11_farBehind_8 : decode cX11_farBehind 8 = .ok (.iload_n 3, 1) := by decide +kernel
theorem dX11_farBehind_9 : decode cX11_farBehind 9 = .ok (.invokevirtual 174, 3) := by decide +kernel
theorem dX11_farBehind_12 : decode cX11_farBehind 12 = .ok (.invokestatic 193, 3) := by decide +kernel
theorem dX11_farBehind_15 : decode cX11_farBehind 15 = .ok (.iload 4, 2) := by decide +kernel
theorem dX11_farBehind_17 : decode cX11_farBehind 17 = .ok (.isub, 1) := by decide +kernel
theorem dX11_farBehind_18 : decode cX11_farBehind 18 = .ok (.invokestatic 207, 3) := by decide +kernel
theorem dX11_farBehind_21 : decode cX11_farBehind 21 = .ok (.ireturn, 1) := by decide +kernel
set_option maxRecDepth 20000 in
theorem ggX11_farFromAll_X7_size : GoodIn wsX11_farFromAll wsX7_size := goodIn_r _ [10, 11, 40, 41, 42, 43] (by decide +kernel) (by decide +kernel)
set_option maxRecDepth 20000 in
theorem gX11_farFromAll_X7_size : GoodIn wsX11_farFromAll (wsV RX11 113 RX7 yX7_size wsX7_size) := goodIn_app (goodIn_of _ (by decide +kernel)) ggX11_farFromAll_X7_size
set_option maxRecDepth 20000 in
theorem ggX11_farFromAll_X7_at : GoodIn wsX11_farFromAll wsX7_at := goodIn_r _ [15, 16, 17, 40, 41, 42, 43] (by decide +kernel) (by decide +kernel)
set_option maxRecDepth 20000 in
theorem gX11_farFromAll_X7_at : GoodIn wsX11_farFromAll (wsV RX11 184 RX7 yX7_at wsX7_at) := goodIn_app (goodIn_of _ (by decide +kernel)) ggX11_farFromAll_X7_at
theorem dX11_farFromAll_0 : decode cX11_farFromAll 0 = .ok (.iconst 0, 1) := by decide +kernel
theorem dX11_farFromAll_1 : decode cX11_farFromAll 1 = .ok (.istore_n 2, 1) := by decide +kernel
theorem dX11_farFromAll_2 : decode cX11_farFromAll 2 = .ok (.iconst 0, 1) := by decide +kernel
theorem dX11_farFromAll_3 : decode cX11_farFromAll 3 = .ok (.istore_n 3, 1) := by decide +kernel
theorem dX11_farFromAll_4 : decode cX11_farFromAll 4 = .ok (.iload_n 3, 1) := by decide +kernel
theorem dX11_farFromAll_5 : decode cX11_farFromAll 5 = .ok (.aload_n 0, 1) := by decide +kernel
theorem dX11_farFromAll_6 : decode cX11_farFromAll 6 = .ok (.getfield 88, 3) := by decide +kernel
theorem dX11_farFromAll_9 : decode cX11_farFromAll 9 = .ok (.getfield 109, 3) := by decide +kernel
theorem dX11_farFromAll_12 : decode cX11_farFromAll 12 = .ok (.invokevirtual 113, 3) := by decide +kernel
theorem dX11_farFromAll_15 : decode cX11_farFromAll 15 = .ok (.if_icmp .ge 29, 3) := by decide +kernel
theorem dX11_farFromAll_18 : decode cX11_farFromAll 18 = .ok (.iload_n 2, 1) := by decide +kernel
theorem dX11_farFromAll_19 : decode cX11_farFromAll 19 = .ok (.iload_n 1, 1) := by decide +kernel
theorem dX11_farFromAll_20 : decode cX11_farFromAll 20 = .ok (.aload_n 0, 1) := by decide +kernel
theorem dX11_farFromAll_21 : decode cX11_farFromAll 21 = .ok (.getfield 88, 3) := by decide +kernel
theorem dX11_farFromAll_24 : decode cX11_farFromAll 24 = .ok (.getfield 109, 3) := by decide +kernel
theorem dX11_farFromAll_27 : decode cX11_farFromAll 27 = .ok (.iload_n 3, 1) := by decide +kernel
theorem dX11_farFromAll_28 : decode cX11_farFromAll 28 = .ok (.iconst 3, 1) := by decide +kernel
theorem dX11_farFromAll_29 : decode cX11_farFromAll 29 = .ok (.invokevirtual 184, 3) := by decide +kernel
theorem dX11_farFromAll_32 : decode cX11_farFromAll 32 = .ok (.isub, 1) := by decide +kernel
theorem dX11_farFromAll_33 : decode cX11_farFromAll 33 = .ok (.invokestatic 207, 3) := by decide +kernel
theorem dX11_farFromAll_36 : decode cX11_farFromAll 36 = .ok (.iadd, 1) := by decide +kernel
theorem dX11_farFromAll_37 : decode cX11_farFromAll 37 = .ok (.istore_n 2, 1) := by decide +kernel
theorem dX11_farFromAll_38 : decode cX11_farFromAll 38 = .ok (.iinc 3 1, 3) := by decide +kernel
theorem dX11_farFromAll_41 : decode cX11_farFromAll 41 = .ok (.goto (-37), 3) := by decide +kernel
theorem dX11_farFromAll_44 : decode cX11_farFromAll 44 = .ok (.iload_n 2, 1) := by decide +kernel
theorem dX11_farFromAll_45 : decode cX11_farFromAll 45 = .ok (.ireturn, 1) := by decide +kernel
set_option maxRecDepth 20000 in
theorem ggX11_chooseFromTheLast_X7_size : GoodIn wsX11_chooseFromTheLast wsX7_size := goodIn_r _ [17, 18, 65, 66, 67, 68] (by decide +kernel) (by decide +kernel)
set_option maxRecDepth 20000 in
theorem gX11_chooseFromTheLast_X7_size : GoodIn wsX11_chooseFromTheLast (wsV RX11 113 RX7 yX7_size wsX7_size) := goodIn_app (goodIn_of _ (by decide +kernel)) ggX11_chooseFromTheLast_X7_size
set_option maxRecDepth 20000 in
theorem ggX11_chooseFromTheLast_X11_bestDeed : GoodIn wsX11_chooseFromTheLast wsX11_bestDeed := goodIn_r _ [23, 2, 24, 25, 5, 26, 27, 28, 29, 16, 30, 31, 32, 33, 34, 35, 22, 36, 1, 37, 38, 39, 40, 41, 42, 43, 44, 45, 46, 47, 48, 49, 50, 51, 52, 53, 54, 55, 56, 57, 58, 59, 60, 61, 62, 63, 64, 65, 66, 67, 68] (by decide +kernel) (by decide +kernel)
set_option maxRecDepth 20000 in
theorem gX11_chooseFromTheLast_X11_bestDeed : GoodIn wsX11_chooseFromTheLast (wsV RX11 295 RX11 yX11_bestDeed wsX11_bestDeed) := goodIn_app (goodIn_of _ (by decide +kernel)) ggX11_chooseFromTheLast_X11_bestDeed
set_option maxRecDepth 20000 in
theorem ggX11_chooseFromTheLast_X11_endFrom : GoodIn wsX11_chooseFromTheLast wsX11_endFrom := goodIn_r _ [36, 1, 37, 38, 22, 39, 40, 41, 42, 43, 44, 45, 46, 47, 48, 49, 50, 51, 52, 53, 54, 55, 56, 57] (by decide +kernel) (by decide +kernel)
set_option maxRecDepth 20000 in
theorem gX11_chooseFromTheLast_X11_endFrom : GoodIn wsX11_chooseFromTheLast (wsV RX11 298 RX11 yX11_endFrom wsX11_endFrom) := goodIn_app (goodIn_of _ (by decide +kernel)) ggX11_chooseFromTheLast_X11_endFrom
theorem dX11_chooseFromTheLast_0 : decode cX11_chooseFromTheLast 0 = .ok (.iconst 0, 1) := by decide +kernel
theorem dX11_chooseFromTheLast_1 : decode cX11_chooseFromTheLast 1 = .ok (.istore_n 1, 1) := by decide +kernel
theorem dX11_chooseFromTheLast_2 : decode cX11_chooseFromTheLast 2 = .ok (.iload_n 1, 1) := by decide +kernel
theorem dX11_chooseFromTheLast_3 : decode cX11_chooseFromTheLast 3 = .ok (.bipush 30, 2) := by decide +kernel
theorem dX11_chooseFromTheLast_5 : decode cX11_chooseFromTheLast 5 = .ok (.if_icmp .gt 16, 3) := by decide +kernel
theorem dX11_chooseFromTheLast_8 : decode cX11_chooseFromTheLast 8 = .ok (.aload_n 0, 1) := by decide +kernel
theorem dX11_chooseFromTheLast_9 : decode cX11_chooseFromTheLast 9 = .ok (.getfield 43, 3) := by decide +kernel
theorem dX11_chooseFromTheLast_12 : decode cX11_chooseFromTheLast 12 = .ok (.iload_n 1, 1) := by decide +kernel
theorem dX11_chooseFromTheLast_13 : decode cX11_chooseFromTheLast 13 = .ok (.iload_n 1, 1) := by decide +kernel
theorem dX11_chooseFromTheLast_14 : decode cX11_chooseFromTheLast 14 = .ok (.iastore, 1) := by decide +kernel
theorem dX11_chooseFromTheLast_15 : decode cX11_chooseFromTheLast 15 = .ok (.iinc 1 1, 3) := by decide +kernel
theorem dX11_chooseFromTheLast_18 : decode cX11_chooseFromTheLast 18 = .ok (.goto (-16), 3) := by decide +kernel
theorem dX11_chooseFromTheLast_21 : decode cX11_chooseFromTheLast 21 = .ok (.aload_n 0, 1) := by decide +kernel
theorem dX11_chooseFromTheLast_22 : decode cX11_chooseFromTheLast 22 = .ok (.getfield 88, 3) := by decide +kernel
theorem dX11_chooseFromTheLast_25 : decode cX11_chooseFromTheLast 25 = .ok (.getfield 109, 3) := by decide +kernel
theorem dX11_chooseFromTheLast_28 : decode cX11_chooseFromTheLast 28 = .ok (.invokevirtual 113, 3) := by decide +kernel
theorem dX11_chooseFromTheLast_31 : decode cX11_chooseFromTheLast 31 = .ok (.bipush 12, 2) := by decide +kernel
theorem dX11_chooseFromTheLast_33 : decode cX11_chooseFromTheLast 33 = .ok (.invokestatic 202, 3) := by decide +kernel
theorem dX11_chooseFromTheLast_36 : decode cX11_chooseFromTheLast 36 = .ok (.iconst 1, 1) := by decide +kernel
theorem dX11_chooseFromTheLast_37 : decode cX11_chooseFromTheLast 37 = .ok (.isub, 1) := by decide +kernel
theorem dX11_chooseFromTheLast_38 : decode cX11_chooseFromTheLast 38 = .ok (.istore_n 1, 1) := by decide +kernel
theorem dX11_chooseFromTheLast_39 : decode cX11_chooseFromTheLast 39 = .ok (.iload_n 1, 1) := by decide +kernel
theorem dX11_chooseFromTheLast_40 : decode cX11_chooseFromTheLast 40 = .ok (.ifCond .lt 70, 3) := by decide +kernel
theorem dX11_chooseFromTheLast_43 : decode cX11_chooseFromTheLast 43 = .ok (.iconst 0, 1) := by decide +kernel
theorem dX11_chooseFromTheLast_44 : decode cX11_chooseFromTheLast 44 = .ok (.istore_n 2, 1) := by decide +kernel
theorem dX11_chooseFromTheLast_45 : decode cX11_chooseFromTheLast 45 = .ok (.iload_n 2, 1) := by decide +kernel
theorem dX11_chooseFromTheLast_46 : decode cX11_chooseFromTheLast 46 = .ok (.bipush 30, 2) := by decide +kernel
theorem dX11_chooseFromTheLast_48 : decode cX11_chooseFromTheLast 48 = .ok (.if_icmp .gt 41, 3) := by decide +kernel
theorem dX11_chooseFromTheLast_51 : decode cX11_chooseFromTheLast 51 = .ok (.aload_n 0, 1) := by decide +kernel
theorem dX11_chooseFromTheLast_52 : decode cX11_chooseFromTheLast 52 = .ok (.iload_n 1, 1) := by decide +kernel
theorem dX11_chooseFromTheLast_53 : decode cX11_chooseFromTheLast 53 = .ok (.iload_n 2, 1) := by decide +kernel
theorem dX11_chooseFromTheLast_54 : decode cX11_chooseFromTheLast 54 = .ok (.invokevirtual 295, 3) := by decide +kernel
theorem dX11_chooseFromTheLast_57 : decode cX11_chooseFromTheLast 57 = .ok (.istore_n 3, 1) := by decide +kernel
theorem dX11_chooseFromTheLast_58 : decode cX11_chooseFromTheLast 58 = .ok (.aload_n 0, 1) := by decide +kernel
theorem dX11_chooseFromTheLast_59 : decode cX11_chooseFromTheLast 59 = .ok (.getfield 36, 3) := by decide +kernel
theorem dX11_chooseFromTheLast_62 : decode cX11_chooseFromTheLast 62 = .ok (.iload_n 1, 1) := by decide +kernel
theorem dX11_chooseFromTheLast_63 : decode cX11_chooseFromTheLast 63 = .ok (.bipush 31, 2) := by decide +kernel
theorem dX11_chooseFromTheLast_65 : decode cX11_chooseFromTheLast 65 = .ok (.imul, 1) := by decide +kernel
theorem dX11_chooseFromTheLast_66 : decode cX11_chooseFromTheLast 66 = .ok (.iload_n 2, 1) := by decide +kernel
theorem dX11_chooseFromTheLast_67 : decode cX11_chooseFromTheLast 67 = .ok (.iadd, 1) := by decide +kernel
theorem dX11_chooseFromTheLast_68 : decode cX11_chooseFromTheLast 68 = .ok (.iload_n 3, 1) := by decide +kernel
theorem dX11_chooseFromTheLast_69 : decode cX11_chooseFromTheLast 69 = .ok (.iastore, 1) := by decide +kernel
theorem dX11_chooseFromTheLast_70 : decode cX11_chooseFromTheLast 70 = .ok (.aload_n 0, 1) := by decide +kernel
theorem dX11_chooseFromTheLast_71 : decode cX11_chooseFromTheLast 71 = .ok (.getfield 40, 3) := by decide +kernel
theorem dX11_chooseFromTheLast_74 : decode cX11_chooseFromTheLast 74 = .ok (.iload_n 2, 1) := by decide +kernel
theorem dX11_chooseFromTheLast_75 : decode cX11_chooseFromTheLast 75 = .ok (.aload_n 0, 1) := by decide +kernel
theorem dX11_chooseFromTheLast_76 : decode cX11_chooseFromTheLast 76 = .ok (.iload_n 2, 1) := by decide +kernel
theorem dX11_chooseFromTheLast_77 : decode cX11_chooseFromTheLast 77 = .ok (.iload_n 3, 1) := by decide +kernel
theorem dX11_chooseFromTheLast_78 : decode cX11_chooseFromTheLast 78 = .ok (.iadd, 1) := by decide +kernel
theorem dX11_chooseFromTheLast_79 : decode cX11_chooseFromTheLast 79 = .ok (.invokevirtual 298, 3) := by decide +kernel
theorem dX11_chooseFromTheLast_82 : decode cX11_chooseFromTheLast 82 = .ok (.iastore, 1) := by decide +kernel
theorem dX11_chooseFromTheLast_83 : decode cX11_chooseFromTheLast 83 = .ok (.iinc 2 1, 3) := by decide +kernel
theorem dX11_chooseFromTheLast_86 : decode cX11_chooseFromTheLast 86 = .ok (.goto (-41), 3) := by decide +kernel
theorem dX11_chooseFromTheLast_89 : decode cX11_chooseFromTheLast 89 = .ok (.aload_n 0, 1) := by decide +kernel
theorem dX11_chooseFromTheLast_90 : decode cX11_chooseFromTheLast 90 = .ok (.getfield 40, 3) := by decide +kernel
theorem dX11_chooseFromTheLast_93 : decode cX11_chooseFromTheLast 93 = .ok (.iconst 0, 1) := by decide +kernel
theorem dX11_chooseFromTheLast_94 : decode cX11_chooseFromTheLast 94 = .ok (.aload_n 0, 1) := by decide +kernel
theorem dX11_chooseFromTheLast_95 : decode cX11_chooseFromTheLast 95 = .ok (.getfield 43, 3) := by decide +kernel
theorem dX11_chooseFromTheLast_98 : decode cX11_chooseFromTheLast 98 = .ok (.iconst 0, 1) := by decide +kernel
theorem dX11_chooseFromTheLast_99 : decode cX11_chooseFromTheLast 99 = .ok (.bipush 31, 2) := by decide +kernel
theorem dX11_chooseFromTheLast_101 : decode cX11_chooseFromTheLast 101 = .ok (.invokestatic 301, 3) := by decide +kernel
theorem dX11_chooseFromTheLast_104 : decode cX11_chooseFromTheLast 104 = .ok (.iinc 1 (-1), 3) := by decide +kernel
theorem dX11_chooseFromTheLast_107 : decode cX11_chooseFromTheLast 107 = .ok (.goto (-68), 3) := by decide +kernel
theorem dX11_chooseFromTheLast_110 : decode cX11_chooseFromTheLast 110 = .ok (.return_, 1) := by decide +kernel
set_option maxRecDepth 20000 in
theorem ggX11_bestDeed_X7_at : GoodIn wsX11_bestDeed wsX7_at := goodIn_r _ [10, 11, 12, 47, 48, 49, 50] (by decide +kernel) (by decide +kernel)
set_option maxRecDepth 20000 in
theorem gX11_bestDeed_X7_at : GoodIn wsX11_bestDeed (wsV RX11 184 RX7 yX7_at wsX7_at) := goodIn_app (goodIn_of _ (by decide +kernel)) ggX11_bestDeed_X7_at
set_option maxRecDepth 20000 in
theorem ggX11_bestDeed_X11_endFrom : GoodIn wsX11_bestDeed wsX11_endFrom := goodIn_r _ [17, 18, 19, 20, 16, 21, 22, 23, 24, 25, 26, 27, 28, 29, 30, 31, 32, 33, 34, 35, 36, 37, 38, 39] (by decide +kernel) (by decide +kernel)
set_option maxRecDepth 20000 in
theorem gX11_bestDeed_X11_endFrom : GoodIn wsX11_bestDeed (wsV RX11 298 RX11 yX11_endFrom wsX11_endFrom) := goodIn_app (goodIn_of _ (by decide +kernel)) ggX11_bestDeed_X11_endFrom
theorem dX11_bestDeed_0 : decode cX11_bestDeed 0 = .ok (.aload_n 0, 1) := by decide +kernel
theorem dX11_bestDeed_1 : decode cX11_bestDeed 1 = .ok (.getfield 88, 3) := by decide +kernel
theorem dX11_bestDeed_4 : decode cX11_bestDeed 4 = .ok (.getfield 109, 3) := by decide +kernel
theorem dX11_bestDeed_7 : decode cX11_bestDeed 7 = .ok (.iload_n 1, 1) := by decide +kernel
theorem dX11_bestDeed_8 : decode cX11_bestDeed 8 = .ok (.iconst 3, 1) := by decide +kernel
theorem dX11_bestDeed_9 : decode cX11_bestDeed 9 = .ok (.invokevirtual 184, 3) := by decide +kernel
theorem dX11_bestDeed_12 : decode cX11_bestDeed 12 = .ok (.istore_n 3, 1) := by decide +kernel
theorem dX11_bestDeed_13 : decode cX11_bestDeed 13 = .ok (.iconst 0, 1) := by decide +kernel
theorem dX11_bestDeed_14 : decode cX11_bestDeed 14 = .ok (.istore 4, 2) := by decide +kernel
theorem dX11_bestDeed_16 : decode cX11_bestDeed 16 = .ok (.aload_n 0, 1) := by decide +kernel
theorem dX11_bestDeed_17 : decode cX11_bestDeed 17 = .ok (.iload_n 2, 1) := by decide +kernel
theorem dX11_bestDeed_18 : decode cX11_bestDeed 18 = .ok (.invokevirtual 298, 3) := by decide +kernel
theorem dX11_bestDeed_21 : decode cX11_bestDeed 21 = .ok (.iload_n 3, 1) := by decide +kernel
theorem dX11_bestDeed_22 : decode cX11_bestDeed 22 = .ok (.isub, 1) := by decide +kernel
theorem dX11_bestDeed_23 : decode cX11_bestDeed 23 = .ok (.invokestatic 207, 3) := by decide +kernel
theorem dX11_bestDeed_26 : decode cX11_bestDeed 26 = .ok (.istore 5, 2) := by decide +kernel
theorem dX11_bestDeed_28 : decode cX11_bestDeed 28 = .ok (.iload_n 2, 1) := by decide +kernel
theorem dX11_bestDeed_29 : decode cX11_bestDeed 29 = .ok (.ifCond .le 37, 3) := by decide +kernel
theorem dX11_bestDeed_32 : decode cX11_bestDeed 32 = .ok (.aload_n 0, 1) := by decide +kernel
theorem dX11_bestDeed_33 : decode cX11_bestDeed 33 = .ok (.iload_n 2, 1) := by decide +kernel
theorem dX11_bestDeed_34 : decode cX11_bestDeed 34 = .ok (.iconst 1, 1) := by decide +kernel
theorem dX11_bestDeed_35 : decode cX11_bestDeed 35 = .ok (.isub, 1) := by decide +kernel
theorem dX11_bestDeed_36 : decode cX11_bestDeed 36 = .ok (.invokevirtual 298, 3) := by decide +kernel
theorem dX11_bestDeed_39 : decode cX11_bestDeed 39 = .ok (.iload_n 3, 1) := by decide +kernel
theorem dX11_bestDeed_40 : decode cX11_bestDeed 40 = .ok (.isub, 1) := by decide +kernel
theorem dX11_bestDeed_41 : decode cX11_bestDeed 41 = .ok (.invokestatic 207, 3) := by decide +kernel
theorem dX11_bestDeed_44 : decode cX11_bestDeed 44 = .ok (.iload 5, 2) := by decide +kernel
theorem dX11_bestDeed_46 : decode cX11_bestDeed 46 = .ok (.if_icmp .ge 20, 3) := by decide +kernel
theorem dX11_bestDeed_49 : decode cX11_bestDeed 49 = .ok (.iconst (-1), 1) := by decide +kernel
theorem dX11_bestDeed_50 : decode cX11_bestDeed 50 = .ok (.istore 4, 2) := by decide +kernel
theorem dX11_bestDeed_52 : decode cX11_bestDeed 52 = .ok (.aload_n 0, 1) := by decide +kernel
theorem dX11_bestDeed_53 : decode cX11_bestDeed 53 = .ok (.iload_n 2, 1) := by decide +kernel
theorem dX11_bestDeed_54 : decode cX11_bestDeed 54 = .ok (.iconst 1, 1) := by decide +kernel
theorem dX11_bestDeed_55 : decode cX11_bestDeed 55 = .ok (.isub, 1) := by decide +kernel
theorem dX11_bestDeed_56 : decode cX11_bestDeed 56 = .ok (.invokevirtual 298, 3) := by decide +kernel
theorem dX11_bestDeed_59 : decode cX11_bestDeed 59 = .ok (.iload_n 3, 1) := by decide +kernel
theorem dX11_bestDeed_60 : decode cX11_bestDeed 60 = .ok (.isub, 1) := by decide +kernel
theorem dX11_bestDeed_61 : decode cX11_bestDeed 61 = .ok (.invokestatic 207, 3) := by decide +kernel
theorem dX11_bestDeed_64 : decode cX11_bestDeed 64 = .ok (.istore 5, 2) := by decide +kernel
theorem dX11_bestDeed_66 : decode cX11_bestDeed 66 = .ok (.aload_n 0, 1) := by decide +kernel
theorem dX11_bestDeed_67 : decode cX11_bestDeed 67 = .ok (.getfield 88, 3) := by decide +kernel
theorem dX11_bestDeed_70 : decode cX11_bestDeed 70 = .ok (.getfield 109, 3) := by decide +kernel
theorem dX11_bestDeed_73 : decode cX11_bestDeed 73 = .ok (.iload_n 1, 1) := by decide +kernel
theorem dX11_bestDeed_74 : decode cX11_bestDeed 74 = .ok (.iconst 2, 1) := by decide +kernel
theorem dX11_bestDeed_75 : decode cX11_bestDeed 75 = .ok (.invokevirtual 184, 3) := by decide +kernel
theorem dX11_bestDeed_78 : decode cX11_bestDeed 78 = .ok (.iconst 1, 1) := by decide +kernel
theorem dX11_bestDeed_79 : decode cX11_bestDeed 79 = .ok (.if_icmp .ne 13, 3) := by decide +kernel
theorem dX11_bestDeed_82 : decode cX11_bestDeed 82 = .ok (.iload_n 2, 1) := by decide +kernel
theorem dX11_bestDeed_83 : decode cX11_bestDeed 83 = .ok (.bipush 30, 2) := by decide +kernel
theorem dX11_bestDeed_85 : decode cX11_bestDeed 85 = .ok (.if_icmp .ge 7, 3) := by decide +kernel
theorem dX11_bestDeed_88 : decode cX11_bestDeed 88 = .ok (.iconst 1, 1) := by decide +kernel
theorem dX11_bestDeed_89 : decode cX11_bestDeed 89 = .ok (.goto 4, 3) := by decide +kernel
theorem dX11_bestDeed_92 : decode cX11_bestDeed 92 = .ok (.iconst 0, 1) := by decide +kernel
theorem dX11_bestDeed_93 : decode cX11_bestDeed 93 = .ok (.istore 6, 2) := by decide +kernel
theorem dX11_bestDeed_95 : decode cX11_bestDeed 95 = .ok (.iload 6, 2) := by decide +kernel
theorem dX11_bestDeed_97 : decode cX11_bestDeed 97 = .ok (.ifCond .eq 23, 3) := by decide +kernel
theorem dX11_bestDeed_100 : decode cX11_bestDeed 100 = .ok (.aload_n 0, 1) := by decide +kernel
theorem dX11_bestDeed_101 : decode cX11_bestDeed 101 = .ok (.iload_n 2, 1) := by decide +kernel
theorem dX11_bestDeed_102 : decode cX11_bestDeed 102 = .ok (.iconst 1, 1) := by decide +kernel
theorem dX11_bestDeed_103 : decode cX11_bestDeed 103 = .ok (.iadd, 1) := by decide +kernel
theorem dX11_bestDeed_104 : decode cX11_bestDeed 104 = .ok (.invokevirtual 298, 3) := by decide +kernel
theorem dX11_bestDeed_107 : decode cX11_bestDeed 107 = .ok (.iload_n 3, 1) := by decide +kernel
theorem dX11_bestDeed_108 : decode cX11_bestDeed 108 = .ok (.isub, 1) := by decide +kernel
theorem dX11_bestDeed_109 : decode cX11_bestDeed 109 = .ok (.invokestatic 207, 3) := by decide +kernel
theorem dX11_bestDeed_112 : decode cX11_bestDeed 112 = .ok (.iload 5, 2) := by decide +kernel
theorem dX11_bestDeed_114 : decode cX11_bestDeed 114 = .ok (.if_icmp .ge 6, 3) := by decide +kernel
theorem dX11_bestDeed_117 : decode cX11_bestDeed 117 = .ok (.iconst 1, 1) := by decide +kernel
theorem dX11_bestDeed_118 : decode cX11_bestDeed 118 = .ok (.istore 4, 2) := by decide +kernel
theorem dX11_bestDeed_120 : decode cX11_bestDeed 120 = .ok (.iload 4, 2) := by decide +kernel
theorem dX11_bestDeed_122 : decode cX11_bestDeed 122 = .ok (.ireturn, 1) := by decide +kernel
set_option maxRecDepth 20000 in
theorem ggX11_endFrom_X11_isHigh : GoodIn wsX11_endFrom wsX11_isHigh := goodIn_r _ [5, 6, 7, 4, 8] (by decide +kernel) (by decide +kernel)
set_option maxRecDepth 20000 in
theorem gX11_endFrom_X11_isHigh : GoodIn wsX11_endFrom (va_wsS RX11 196 yX11_isHigh wsX11_isHigh) := goodIn_app (goodIn_of _ (by decide +kernel)) ggX11_endFrom_X11_isHigh
theorem dX11_endFrom_0 : decode cX11_endFrom 0 = .ok (.iload_n 1, 1) := by decide +kernel
theorem dX11_endFrom_1 : decode cX11_endFrom 1 = .ok (.invokestatic 196, 3) := by decide +kernel
theorem dX11_endFrom_4 : decode cX11_endFrom 4 = .ok (.ifCond .eq 12, 3) := by decide +kernel
theorem dX11_endFrom_7 : decode cX11_endFrom 7 = .ok (.aload_n 0, 1) := by decide +kernel
theorem dX11_endFrom_8 : decode cX11_endFrom 8 = .ok (.getfield 43, 3) := by decide +kernel
theorem dX11_endFrom_11 : decode cX11_endFrom 11 = .ok (.iload_n 1, 1) := by decide +kernel
theorem dX11_endFrom_12 : decode cX11_endFrom 12 = .ok (.iaload, 1) := by decide +kernel
theorem dX11_endFrom_13 : decode cX11_endFrom 13 = .ok (.goto 4, 3) := by decide +kernel
theorem dX11_endFrom_16 : decode cX11_endFrom 16 = .ok (.iload_n 1, 1) := by decide +kernel
theorem dX11_endFrom_17 : decode cX11_endFrom 17 = .ok (.ireturn, 1) := by decide +kernel
theorem dX11_choiceAt_0 : decode cX11_choiceAt 0 = .ok (.iload_n 1, 1) := by decide +kernel
theorem dX11_choiceAt_1 : decode cX11_choiceAt 1 = .ok (.bipush 31, 2) := by decide +kernel
theorem dX11_choiceAt_3 : decode cX11_choiceAt 3 = .ok (.imul, 1) := by decide +kernel
theorem dX11_choiceAt_4 : decode cX11_choiceAt 4 = .ok (.iload_n 2, 1) := by decide +kernel
theorem dX11_choiceAt_5 : decode cX11_choiceAt 5 = .ok (.iadd, 1) := by decide +kernel
theorem dX11_choiceAt_6 : decode cX11_choiceAt 6 = .ok (.istore_n 3, 1) := by decide +kernel
theorem dX11_choiceAt_7 : decode cX11_choiceAt 7 = .ok (.iload_n 3, 1) := by decide +kernel
theorem dX11_choiceAt_8 : decode cX11_choiceAt 8 = .ok (.ifCond .lt 21, 3) := by decide +kernel
theorem dX11_choiceAt_11 : decode cX11_choiceAt 11 = .ok (.iload_n 3, 1) := by decide +kernel
theorem dX11_choiceAt_12 : decode cX11_choiceAt 12 = .ok (.aload_n 0, 1) := by decide +kernel
theorem dX11_choiceAt_13 : decode cX11_choiceAt 13 = .ok (.getfield 36, 3) := by decide +kernel
theorem dX11_choiceAt_16 : decode cX11_choiceAt 16 = .ok (.arraylength, 1) := by decide +kernel
theorem dX11_choiceAt_17 : decode cX11_choiceAt 17 = .ok (.if_icmp .ge 12, 3) := by decide +kernel
theorem dX11_choiceAt_20 : decode cX11_choiceAt 20 = .ok (.aload_n 0, 1) := by decide +kernel
theorem dX11_choiceAt_21 : decode cX11_choiceAt 21 = .ok (.getfield 36, 3) := by decide +kernel
theorem dX11_choiceAt_24 : decode cX11_choiceAt 24 = .ok (.iload_n 3, 1) := by decide +kernel
theorem dX11_choiceAt_25 : decode cX11_choiceAt 25 = .ok (.iaload, 1) := by decide +kernel
theorem dX11_choiceAt_26 : decode cX11_choiceAt 26 = .ok (.goto 4, 3) := by decide +kernel
theorem dX11_choiceAt_29 : decode cX11_choiceAt 29 = .ok (.iconst 0, 1) := by decide +kernel
theorem dX11_choiceAt_30 : decode cX11_choiceAt 30 = .ok (.ireturn, 1) := by decide +kernel
set_option maxRecDepth 20000 in
theorem ggX11_rowsThatFit_X8_startAt : GoodIn wsX11_rowsThatFit wsX8_startAt := goodIn_r _ [7, 8, 9, 10, 11, 12, 13, 14, 6, 15, 80, 81] (by decide +kernel) (by decide +kernel)
set_option maxRecDepth 20000 in
theorem gX11_rowsThatFit_X8_startAt : GoodIn wsX11_rowsThatFit (wsV RX11 258 RX8 yX8_startAt wsX8_startAt) := goodIn_app (goodIn_of _ (by decide +kernel)) ggX11_rowsThatFit_X8_startAt
set_option maxRecDepth 20000 in
theorem ggX11_rowsThatFit_X11_keepWhatWasSeen : GoodIn wsX11_rowsThatFit wsX11_keepWhatWasSeen := goodIn_r _ [20, 2, 1, 21, 22, 23, 24, 25, 26, 27, 28, 29, 30, 31, 32, 33, 34, 35, 36, 37, 38, 39, 40, 41, 42, 43, 6, 44, 8, 58, 59, 60, 61, 62, 63, 64, 65, 66, 67, 68, 69, 70, 71, 72, 73, 74, 75, 76, 77, 78, 79, 82, 83, 84, 85, 80, 81] (by decide +kernel) (by decide +kernel)
set_option maxRecDepth 20000 in
theorem gX11_rowsThatFit_X11_keepWhatWasSeen : GoodIn wsX11_rowsThatFit (wsV RX11 307 RX11 yX11_keepWhatWasSeen wsX11_keepWhatWasSeen) := goodIn_app (goodIn_of _ (by decide +kernel)) ggX11_rowsThatFit_X11_keepWhatWasSeen
set_option maxRecDepth 20000 in
theorem ggX11_rowsThatFit_X7_size : GoodIn wsX11_rowsThatFit wsX7_size := goodIn_r _ [25, 26, 82, 83, 84, 85] (by decide +kernel) (by decide +kernel)
set_option maxRecDepth 20000 in
theorem gX11_rowsThatFit_X7_size : GoodIn wsX11_rowsThatFit (wsV RX11 113 RX7 yX7_size wsX7_size) := goodIn_app (goodIn_of _ (by decide +kernel)) ggX11_rowsThatFit_X7_size
set_option maxRecDepth 20000 in
theorem ggX11_rowsThatFit_X8_pass : GoodIn wsX11_rowsThatFit wsX8_pass := goodIn_r _ [48, 49, 8, 50, 51, 52, 53, 9, 10, 11, 12, 13, 14, 6, 15, 80, 81] (by decide +kernel) (by decide +kernel)
set_option maxRecDepth 20000 in
theorem gX11_rowsThatFit_X8_pass : GoodIn wsX11_rowsThatFit (wsV RX11 310 RX8 yX8_pass wsX8_pass) := goodIn_app (goodIn_of _ (by decide +kernel)) ggX11_rowsThatFit_X8_pass
set_option maxRecDepth 20000 in
theorem ggX11_rowsThatFit_X8_upTo : GoodIn wsX11_rowsThatFit wsX8_upTo := goodIn_r _ [57, 8, 80, 81] (by decide +kernel) (by decide +kernel)
set_option maxRecDepth 20000 in
theorem gX11_rowsThatFit_X8_upTo : GoodIn wsX11_rowsThatFit (wsV RX11 267 RX8 yX8_upTo wsX8_upTo) := goodIn_app (goodIn_of _ (by decide +kernel)) ggX11_rowsThatFit_X8_upTo
theorem dX11_rowsThatFit_0 : decode cX11_rowsThatFit 0 = .ok (.aload_n 0, 1) := by decide +kernel
theorem dX11_rowsThatFit_1 : decode cX11_rowsThatFit 1 = .ok (.getfield 32, 3) := by decide +kernel
theorem dX11_rowsThatFit_4 : decode cX11_rowsThatFit 4 = .ok (.aload_n 0, 1) := by decide +kernel
theorem dX11_rowsThatFit_5 : decode cX11_rowsThatFit 5 = .ok (.getfield 88, 3) := by decide +kernel
theorem dX11_rowsThatFit_8 : decode cX11_rowsThatFit 8 = .ok (.getfield 187, 3) := by decide +kernel
theorem dX11_rowsThatFit_11 : decode cX11_rowsThatFit 11 = .ok (.invokevirtual 258, 3) := by decide +kernel
theorem dX11_rowsThatFit_14 : decode cX11_rowsThatFit 14 = .ok (.aload_n 0, 1) := by decide +kernel
theorem dX11_rowsThatFit_15 : decode cX11_rowsThatFit 15 = .ok (.iconst 0, 1) := by decide +kernel
theorem dX11_rowsThatFit_16 : decode cX11_rowsThatFit 16 = .ok (.invokevirtual 307, 3) := by decide +kernel
theorem dX11_rowsThatFit_19 : decode cX11_rowsThatFit 19 = .ok (.iconst 0, 1) := by decide +kernel
theorem dX11_rowsThatFit_20 : decode cX11_rowsThatFit 20 = .ok (.istore_n 3, 1) := by decide +kernel
theorem dX11_rowsThatFit_21 : decode cX11_rowsThatFit 21 = .ok (.iload_n 3, 1) := by decide +kernel
theorem dX11_rowsThatFit_22 : decode cX11_rowsThatFit 22 = .ok (.aload_n 0, 1) := by decide +kernel
theorem dX11_rowsThatFit_23 : decode cX11_rowsThatFit 23 = .ok (.getfield 88, 3) := by decide +kernel
theorem dX11_rowsThatFit_26 : decode cX11_rowsThatFit 26 = .ok (.getfield 109, 3) := by decide +kernel
theorem dX11_rowsThatFit_29 : decode cX11_rowsThatFit 29 = .ok (.invokevirtual 113, 3) := by decide +kernel
theorem dX11_rowsThatFit_32 : decode cX11_rowsThatFit 32 = .ok (.if_icmp .ge 92, 3) := by decide +kernel
theorem dX11_rowsThatFit_35 : decode cX11_rowsThatFit 35 = .ok (.iload_n 3, 1) := by decide +kernel
theorem dX11_rowsThatFit_36 : decode cX11_rowsThatFit 36 = .ok (.iload_n 1, 1) := by decide +kernel
theorem dX11_rowsThatFit_37 : decode cX11_rowsThatFit 37 = .ok (.if_icmp .eq 7, 3) := by decide +kernel
theorem dX11_rowsThatFit_40 : decode cX11_rowsThatFit 40 = .ok (.iconst 1, 1) := by decide +kernel
theorem dX11_rowsThatFit_41 : decode cX11_rowsThatFit 41 = .ok (.goto 4, 3) := by decide +kernel
theorem dX11_rowsThatFit_44 : decode cX11_rowsThatFit 44 = .ok (.iconst 0, 1) := by decide +kernel
theorem dX11_rowsThatFit_45 : decode cX11_rowsThatFit 45 = .ok (.istore 4, 2) := by decide +kernel
theorem dX11_rowsThatFit_47 : decode cX11_rowsThatFit 47 = .ok (.iload 4, 2) := by decide +kernel
theorem dX11_rowsThatFit_49 : decode cX11_rowsThatFit 49 = .ok (.ifCond .ne 8, 3) := by decide +kernel
theorem dX11_rowsThatFit_52 : decode cX11_rowsThatFit 52 = .ok (.iload_n 2, 1) := by decide +kernel
theorem dX11_rowsThatFit_53 : decode cX11_rowsThatFit 53 = .ok (.iconst (-1), 1) := by decide +kernel
theorem dX11_rowsThatFit_54 : decode cX11_rowsThatFit 54 = .ok (.if_icmp .ne 7, 3) := by decide +kernel
theorem dX11_rowsThatFit_57 : decode cX11_rowsThatFit 57 = .ok (.iconst 1, 1) := by decide +kernel
theorem dX11_rowsThatFit_58 : decode cX11_rowsThatFit 58 = .ok (.goto 4, 3) := by decide +kernel
theorem dX11_rowsThatFit_61 : decode cX11_rowsThatFit 61 = .ok (.iconst 0, 1) := by decide +kernel
theorem dX11_rowsThatFit_62 : decode cX11_rowsThatFit 62 = .ok (.istore 5, 2) := by decide +kernel
theorem dX11_rowsThatFit_64 : decode cX11_rowsThatFit 64 = .ok (.iload 4, 2) := by decide +kernel
theorem dX11_rowsThatFit_66 : decode cX11_rowsThatFit 66 = .ok (.ifCond .ne 7, 3) := by decide +kernel
theorem dX11_rowsThatFit_69 : decode cX11_rowsThatFit 69 = .ok (.iload_n 2, 1) := by decide +kernel
theorem dX11_rowsThatFit_70 : decode cX11_rowsThatFit 70 = .ok (.ifCond .ne 7, 3) := by decide +kernel
theorem dX11_rowsThatFit_73 : decode cX11_rowsThatFit 73 = .ok (.iconst 1, 1) := by decide +kernel
theorem dX11_rowsThatFit_74 : decode cX11_rowsThatFit 74 = .ok (.goto 4, 3) := by decide +kernel
theorem dX11_rowsThatFit_77 : decode cX11_rowsThatFit 77 = .ok (.iconst 0, 1) := by decide +kernel
theorem dX11_rowsThatFit_78 : decode cX11_rowsThatFit 78 = .ok (.istore 6, 2) := by decide +kernel
theorem dX11_rowsThatFit_80 : decode cX11_rowsThatFit 80 = .ok (.iload 4, 2) := by decide +kernel
theorem dX11_rowsThatFit_82 : decode cX11_rowsThatFit 82 = .ok (.ifCond .ne 8, 3) := by decide +kernel
theorem dX11_rowsThatFit_85 : decode cX11_rowsThatFit 85 = .ok (.iload_n 2, 1) := by decide +kernel
theorem dX11_rowsThatFit_86 : decode cX11_rowsThatFit 86 = .ok (.iconst 1, 1) := by decide +kernel
theorem dX11_rowsThatFit_87 : decode cX11_rowsThatFit 87 = .ok (.if_icmp .ne 7, 3) := by decide +kernel
theorem dX11_rowsThatFit_90 : decode cX11_rowsThatFit 90 = .ok (.iconst 1, 1) := by decide +kernel
theorem dX11_rowsThatFit_91 : decode cX11_rowsThatFit 91 = .ok (.goto 4, 3) := by decide +kernel
theorem dX11_rowsThatFit_94 : decode cX11_rowsThatFit 94 = .ok (.iconst 0, 1) := by decide +kernel
theorem dX11_rowsThatFit_95 : decode cX11_rowsThatFit 95 = .ok (.istore 7, 2) := by decide +kernel
theorem dX11_rowsThatFit_97 : decode cX11_rowsThatFit 97 = .ok (.aload_n 0, 1) := by decide +kernel
theorem dX11_rowsThatFit_98 : decode cX11_rowsThatFit 98 = .ok (.getfield 32, 3) := by decide +kernel
theorem dX11_rowsThatFit_101 : decode cX11_rowsThatFit 101 = .ok (.iload 5, 2) := by decide +kernel
theorem dX11_rowsThatFit_103 : decode cX11_rowsThatFit 103 = .ok (.iload 6, 2) := by decide +kernel
theorem dX11_rowsThatFit_105 : decode cX11_rowsThatFit 105 = .ok (.iload 7, 2) := by decide +kernel
theorem dX11_rowsThatFit_107 : decode cX11_rowsThatFit 107 = .ok (.iconst 0, 1) := by decide +kernel
theorem dX11_rowsThatFit_108 : decode cX11_rowsThatFit 108 = .ok (.invokevirtual 310, 3) := by decide +kernel
theorem dX11_rowsThatFit_111 : decode cX11_rowsThatFit 111 = .ok (.aload_n 0, 1) := by decide +kernel
theorem dX11_rowsThatFit_112 : decode cX11_rowsThatFit 112 = .ok (.iload_n 3, 1) := by decide +kernel
theorem dX11_rowsThatFit_113 : decode cX11_rowsThatFit 113 = .ok (.iconst 1, 1) := by decide +kernel
theorem dX11_rowsThatFit_114 : decode cX11_rowsThatFit 114 = .ok (.iadd, 1) := by decide +kernel
theorem dX11_rowsThatFit_115 : decode cX11_rowsThatFit 115 = .ok (.invokevirtual 307, 3) := by decide +kernel
theorem dX11_rowsThatFit_118 : decode cX11_rowsThatFit 118 = .ok (.iinc 3 1, 3) := by decide +kernel
theorem dX11_rowsThatFit_121 : decode cX11_rowsThatFit 121 = .ok (.goto (-100), 3) := by decide +kernel
theorem dX11_rowsThatFit_124 : decode cX11_rowsThatFit 124 = .ok (.aload_n 0, 1) := by decide +kernel
theorem dX11_rowsThatFit_125 : decode cX11_rowsThatFit 125 = .ok (.getfield 32, 3) := by decide +kernel
theorem dX11_rowsThatFit_128 : decode cX11_rowsThatFit 128 = .ok (.bipush 30, 2) := by decide +kernel
theorem dX11_rowsThatFit_130 : decode cX11_rowsThatFit 130 = .ok (.invokevirtual 267, 3) := by decide +kernel
theorem dX11_rowsThatFit_133 : decode cX11_rowsThatFit 133 = .ok (.l2i, 1) := by decide +kernel
theorem dX11_rowsThatFit_134 : decode cX11_rowsThatFit 134 = .ok (.ireturn, 1) := by decide +kernel
set_option maxRecDepth 20000 in
theorem ggX11_keepWhatWasSeen_X7_size : GoodIn wsX11_keepWhatWasSeen wsX7_size := goodIn_r _ [7, 8, 51, 52, 53, 54] (by decide +kernel) (by decide +kernel)
set_option maxRecDepth 20000 in
theorem gX11_keepWhatWasSeen_X7_size : GoodIn wsX11_keepWhatWasSeen (wsV RX11 113 RX7 yX7_size wsX7_size) := goodIn_app (goodIn_of _ (by decide +kernel)) ggX11_keepWhatWasSeen_X7_size
set_option maxRecDepth 20000 in
theorem ggX11_keepWhatWasSeen_X7_at : GoodIn wsX11_keepWhatWasSeen wsX7_at := goodIn_r _ [12, 13, 14, 51, 52, 53, 54] (by decide +kernel) (by decide +kernel)
set_option maxRecDepth 20000 in
theorem gX11_keepWhatWasSeen_X7_at : GoodIn wsX11_keepWhatWasSeen (wsV RX11 184 RX7 yX7_at wsX7_at) := goodIn_app (goodIn_of _ (by decide +kernel)) ggX11_keepWhatWasSeen_X7_at
set_option maxRecDepth 20000 in
theorem ggX11_keepWhatWasSeen_X5_passedUntil : GoodIn wsX11_keepWhatWasSeen wsX5_passedUntil := goodIn_r _ [19, 20, 21, 4, 5, 6, 7, 8, 22, 10, 11, 12, 13, 14, 44, 45, 46, 47, 48, 49, 50, 51, 52, 53, 54] (by decide +kernel) (by decide +kernel)
set_option maxRecDepth 20000 in
theorem gX11_keepWhatWasSeen_X5_passedUntil : GoodIn wsX11_keepWhatWasSeen (wsV RX11 210 RX5 yX5_passedUntil wsX5_passedUntil) := goodIn_app (goodIn_of _ (by decide +kernel)) ggX11_keepWhatWasSeen_X5_passedUntil
set_option maxRecDepth 20000 in
theorem ggX11_keepWhatWasSeen_X8_keepOnly : GoodIn wsX11_keepWhatWasSeen wsX8_keepOnly := goodIn_r _ [27, 28, 55, 56] (by decide +kernel) (by decide +kernel)
set_option maxRecDepth 20000 in
theorem gX11_keepWhatWasSeen_X8_keepOnly : GoodIn wsX11_keepWhatWasSeen (wsV RX11 314 RX8 yX8_keepOnly wsX8_keepOnly) := goodIn_app (goodIn_of _ (by decide +kernel)) ggX11_keepWhatWasSeen_X8_keepOnly
theorem dX11_keepWhatWasSeen_0 : decode cX11_keepWhatWasSeen 0 = .ok (.iconst 0, 1) := by decide +kernel
theorem dX11_keepWhatWasSeen_1 : decode cX11_keepWhatWasSeen 1 = .ok (.istore_n 2, 1) := by decide +kernel
theorem dX11_keepWhatWasSeen_2 : decode cX11_keepWhatWasSeen 2 = .ok (.iload_n 2, 1) := by decide +kernel
theorem dX11_keepWhatWasSeen_3 : decode cX11_keepWhatWasSeen 3 = .ok (.aload_n 0, 1) := by decide +kernel
theorem dX11_keepWhatWasSeen_4 : decode cX11_keepWhatWasSeen 4 = .ok (.getfield 88, 3) := by decide +kernel
theorem dX11_keepWhatWasSeen_7 : decode cX11_keepWhatWasSeen 7 = .ok (.getfield 252, 3) := by decide +kernel
theorem dX11_keepWhatWasSeen_10 : decode cX11_keepWhatWasSeen 10 = .ok (.invokevirtual 113, 3) := by decide +kernel
theorem dX11_keepWhatWasSeen_13 : decode cX11_keepWhatWasSeen 13 = .ok (.if_icmp .ge 51, 3) := by decide +kernel
theorem dX11_keepWhatWasSeen_16 : decode cX11_keepWhatWasSeen 16 = .ok (.aload_n 0, 1) := by decide +kernel
theorem dX11_keepWhatWasSeen_17 : decode cX11_keepWhatWasSeen 17 = .ok (.getfield 88, 3) := by decide +kernel
theorem dX11_keepWhatWasSeen_20 : decode cX11_keepWhatWasSeen 20 = .ok (.aload_n 0, 1) := by decide +kernel
theorem dX11_keepWhatWasSeen_21 : decode cX11_keepWhatWasSeen 21 = .ok (.getfield 88, 3) := by decide +kernel
theorem dX11_keepWhatWasSeen_24 : decode cX11_keepWhatWasSeen 24 = .ok (.getfield 252, 3) := by decide +kernel
theorem dX11_keepWhatWasSeen_27 : decode cX11_keepWhatWasSeen 27 = .ok (.iload_n 2, 1) := by decide +kernel
theorem dX11_keepWhatWasSeen_28 : decode cX11_keepWhatWasSeen 28 = .ok (.iconst 0, 1) := by decide +kernel
theorem dX11_keepWhatWasSeen_29 : decode cX11_keepWhatWasSeen 29 = .ok (.invokevirtual 184, 3) := by decide +kernel
theorem dX11_keepWhatWasSeen_32 : decode cX11_keepWhatWasSeen 32 = .ok (.invokevirtual 210, 3) := by decide +kernel
theorem dX11_keepWhatWasSeen_35 : decode cX11_keepWhatWasSeen 35 = .ok (.iload_n 1, 1) := by decide +kernel
theorem dX11_keepWhatWasSeen_36 : decode cX11_keepWhatWasSeen 36 = .ok (.if_icmp .ne 22, 3) := by decide +kernel
theorem dX11_keepWhatWasSeen_39 : decode cX11_keepWhatWasSeen 39 = .ok (.aload_n 0, 1) := by decide +kernel
theorem dX11_keepWhatWasSeen_40 : decode cX11_keepWhatWasSeen 40 = .ok (.getfield 32, 3) := by decide +kernel
theorem dX11_keepWhatWasSeen_43 : decode cX11_keepWhatWasSeen 43 = .ok (.aload_n 0, 1) := by decide +kernel
theorem dX11_keepWhatWasSeen_44 : decode cX11_keepWhatWasSeen 44 = .ok (.getfield 88, 3) := by decide +kernel
theorem dX11_keepWhatWasSeen_47 : decode cX11_keepWhatWasSeen 47 = .ok (.getfield 252, 3) := by decide +kernel
theorem dX11_keepWhatWasSeen_50 : decode cX11_keepWhatWasSeen 50 = .ok (.iload_n 2, 1) := by decide +kernel
theorem dX11_keepWhatWasSeen_51 : decode cX11_keepWhatWasSeen 51 = .ok (.iconst 1, 1) := by decide +kernel
theorem dX11_keepWhatWasSeen_52 : decode cX11_keepWhatWasSeen 52 = .ok (.invokevirtual 184, 3) := by decide +kernel
theorem dX11_keepWhatWasSeen_55 : decode cX11_keepWhatWasSeen 55 = .ok (.invokevirtual 314, 3) := by decide +kernel
theorem dX11_keepWhatWasSeen_58 : decode cX11_keepWhatWasSeen 58 = .ok (.iinc 2 1, 3) := by decide +kernel
theorem dX11_keepWhatWasSeen_61 : decode cX11_keepWhatWasSeen 61 = .ok (.goto (-59), 3) := by decide +kernel
theorem dX11_keepWhatWasSeen_64 : decode cX11_keepWhatWasSeen 64 = .ok (.return_, 1) := by decide +kernel
set_option maxRecDepth 20000 in
theorem ggX11_passByOdds_X7_at : GoodIn wsX11_passByOdds wsX7_at := goodIn_r _ [7, 8, 9, 50, 51, 52, 53] (by decide +kernel) (by decide +kernel)
set_option maxRecDepth 20000 in
theorem gX11_passByOdds_X7_at : GoodIn wsX11_passByOdds (wsV RX11 184 RX7 yX7_at wsX7_at) := goodIn_app (goodIn_of _ (by decide +kernel)) ggX11_passByOdds_X7_at
set_option maxRecDepth 20000 in
theorem ggX11_passByOdds_X8_pass : GoodIn wsX11_passByOdds wsX8_pass := goodIn_r _ [14, 15, 16, 17, 18, 19, 20, 21, 22, 23, 24, 25, 26, 13, 27, 54, 55] (by decide +kernel) (by decide +kernel)
set_option maxRecDepth 20000 in
theorem gX11_passByOdds_X8_pass : GoodIn wsX11_passByOdds (wsV RX11 310 RX8 yX8_pass wsX8_pass) := goodIn_app (goodIn_of _ (by decide +kernel)) ggX11_passByOdds_X8_pass
theorem dX11_passByOdds_0 : decode cX11_passByOdds 0 = .ok (.aload_n 0, 1) := by decide +kernel
theorem dX11_passByOdds_1 : decode cX11_passByOdds 1 = .ok (.getfield 88, 3) := by decide +kernel
theorem dX11_passByOdds_4 : decode cX11_passByOdds 4 = .ok (.getfield 109, 3) := by decide +kernel
theorem dX11_passByOdds_7 : decode cX11_passByOdds 7 = .ok (.iload_n 1, 1) := by decide +kernel
theorem dX11_passByOdds_8 : decode cX11_passByOdds 8 = .ok (.iconst 4, 1) := by decide +kernel
theorem dX11_passByOdds_9 : decode cX11_passByOdds 9 = .ok (.invokevirtual 184, 3) := by decide +kernel
theorem dX11_passByOdds_12 : decode cX11_passByOdds 12 = .ok (.istore_n 2, 1) := by decide +kernel
theorem dX11_passByOdds_13 : decode cX11_passByOdds 13 = .ok (.aload_n 0, 1) := by decide +kernel
theorem dX11_passByOdds_14 : decode cX11_passByOdds 14 = .ok (.getfield 88, 3) := by decide +kernel
theorem dX11_passByOdds_17 : decode cX11_passByOdds 17 = .ok (.getfield 109, 3) := by decide +kernel
theorem dX11_passByOdds_20 : decode cX11_passByOdds 20 = .ok (.iload_n 1, 1) := by decide +kernel
theorem dX11_passByOdds_21 : decode cX11_passByOdds 21 = .ok (.iconst 5, 1) := by decide +kernel
theorem dX11_passByOdds_22 : decode cX11_passByOdds 22 = .ok (.invokevirtual 184, 3) := by decide +kernel
theorem dX11_passByOdds_25 : decode cX11_passByOdds 25 = .ok (.istore_n 3, 1) := by decide +kernel
theorem dX11_passByOdds_26 : decode cX11_passByOdds 26 = .ok (.aload_n 0, 1) := by decide +kernel
theorem dX11_passByOdds_27 : decode cX11_passByOdds 27 = .ok (.getfield 32, 3) := by decide +kernel
theorem dX11_passByOdds_30 : decode cX11_passByOdds 30 = .ok (.iload_n 2, 1) := by decide +kernel
theorem dX11_passByOdds_31 : decode cX11_passByOdds 31 = .ok (.bipush 10, 2) := by decide +kernel
theorem dX11_passByOdds_33 : decode cX11_passByOdds 33 = .ok (.iload_n 2, 1) := by decide +kernel
theorem dX11_passByOdds_34 : decode cX11_passByOdds 34 = .ok (.isub, 1) := by decide +kernel
theorem dX11_passByOdds_35 : decode cX11_passByOdds 35 = .ok (.iload_n 3, 1) := by decide +kernel
theorem dX11_passByOdds_36 : decode cX11_passByOdds 36 = .ok (.isub, 1) := by decide +kernel
theorem dX11_passByOdds_37 : decode cX11_passByOdds 37 = .ok (.iload_n 3, 1) := by decide +kernel
theorem dX11_passByOdds_38 : decode cX11_passByOdds 38 = .ok (.iconst 1, 1) := by decide +kernel
theorem dX11_passByOdds_39 : decode cX11_passByOdds 39 = .ok (.invokevirtual 310, 3) := by decide +kernel
theorem dX11_passByOdds_42 : decode cX11_passByOdds 42 = .ok (.return_, 1) := by decide +kernel
set_option maxRecDepth 20000 in
theorem ggX11_setFraction_X11_commonDivisor : GoodIn wsX11_setFraction wsX11_commonDivisor := goodIn_r _ [6] (by decide +kernel) (by decide +kernel)
set_option maxRecDepth 20000 in
theorem gX11_setFraction_X11_commonDivisor : GoodIn wsX11_setFraction (va_wsS RX11 317 yX11_commonDivisor wsX11_commonDivisor) := goodIn_app (goodIn_of _ (by decide +kernel)) ggX11_setFraction_X11_commonDivisor
theorem dX11_setFraction_0 : decode cX11_setFraction 0 = .ok (.lload_n 1, 1) := by decide +kernel
theorem dX11_setFraction_1 : decode cX11_setFraction 1 = .ok (.lload_n 3, 1) := by decide +kernel
theorem dX11_setFraction_2 : decode cX11_setFraction 2 = .ok (.invokestatic 317, 3) := by decide +kernel
theorem dX11_setFraction_5 : decode cX11_setFraction 5 = .ok (.lstore 5, 2) := by decide +kernel
theorem dX11_setFraction_7 : decode cX11_setFraction 7 = .ok (.lload 5, 2) := by decide +kernel
theorem dX11_setFraction_9 : decode cX11_setFraction 9 = .ok (.lconst 0, 1) := by decide +kernel
theorem dX11_setFraction_10 : decode cX11_setFraction 10 = .ok (.lcmp, 1) := by decide +kernel
theorem dX11_setFraction_11 : decode cX11_setFraction 11 = .ok (.ifCond .le 19, 3) := by decide +kernel
theorem dX11_setFraction_14 : decode cX11_setFraction 14 = .ok (.aload_n 0, 1) := by decide +kernel
theorem dX11_setFraction_15 : decode cX11_setFraction 15 = .ok (.lload_n 1, 1) := by decide +kernel
theorem dX11_setFraction_16 : decode cX11_setFraction 16 = .ok (.lload 5, 2) := by decide +kernel
theorem dX11_setFraction_18 : decode cX11_setFraction 18 = .ok (.ldiv, 1) := by decide +kernel
theorem dX11_setFraction_19 : decode cX11_setFraction 19 = .ok (.putfield 46, 3) := by decide +kernel
theorem dX11_setFraction_22 : decode cX11_setFraction 22 = .ok (.aload_n 0, 1) := by decide +kernel
theorem dX11_setFraction_23 : decode cX11_setFraction 23 = .ok (.lload_n 3, 1) := by decide +kernel
theorem dX11_setFraction_24 : decode cX11_setFraction 24 = .ok (.lload 5, 2) := by decide +kernel
theorem dX11_setFraction_26 : decode cX11_setFraction 26 = .ok (.ldiv, 1) := by decide +kernel
theorem dX11_setFraction_27 : decode cX11_setFraction 27 = .ok (.putfield 50, 3) := by decide +kernel
theorem dX11_setFraction_30 : decode cX11_setFraction 30 = .ok (.return_, 1) := by decide +kernel
theorem dX11_commonDivisor_0 : decode cX11_commonDivisor 0 = .ok (.iconst 0, 1) := by decide +kernel
theorem dX11_commonDivisor_1 : decode cX11_commonDivisor 1 = .ok (.istore 4, 2) := by decide +kernel
theorem dX11_commonDivisor_3 : decode cX11_commonDivisor 3 = .ok (.iload 4, 2) := by decide +kernel
theorem dX11_commonDivisor_5 : decode cX11_commonDivisor 5 = .ok (.bipush 100, 2) := by decide +kernel
theorem dX11_commonDivisor_7 : decode cX11_commonDivisor 7 = .ok (.if_icmp .ge 25, 3) := by decide +kernel
theorem dX11_commonDivisor_10 : decode cX11_commonDivisor 10 = .ok (.lload_n 2, 1) := by decide +kernel
theorem dX11_commonDivisor_11 : decode cX11_commonDivisor 11 = .ok (.lconst 0, 1) := by decide +kernel
theorem dX11_commonDivisor_12 : decode cX11_commonDivisor 12 = .ok (.lcmp, 1) := by decide +kernel
theorem dX11_commonDivisor_13 : decode cX11_commonDivisor 13 = .ok (.ifCond .eq 19, 3) := by decide +kernel
theorem dX11_commonDivisor_16 : decode cX11_commonDivisor 16 = .ok (.lload_n 0, 1) := by decide +kernel
theorem dX11_commonDivisor_17 : decode cX11_commonDivisor 17 = .ok (.lload_n 2, 1) := by decide +kernel
theorem dX11_commonDivisor_18 : decode cX11_commonDivisor 18 = .ok (.lrem, 1) := by decide +kernel
theorem dX11_commonDivisor_19 : decode cX11_commonDivisor 19 = .ok (.lstore 5, 2) := by decide +kernel
theorem dX11_commonDivisor_21 : decode cX11_commonDivisor 21 = .ok (.lload_n 2, 1) := by decide +kernel
theorem dX11_commonDivisor_22 : decode cX11_commonDivisor 22 = .ok (.lstore_n 0, 1) := by decide +kernel
theorem dX11_commonDivisor_23 : decode cX11_commonDivisor 23 = .ok (.lload 5, 2) := by decide +kernel
theorem dX11_commonDivisor_25 : decode cX11_commonDivisor 25 = .ok (.lstore_n 2, 1) := by decide +kernel
theorem dX11_commonDivisor_26 : decode cX11_commonDivisor 26 = .ok (.iinc 4 1, 3) := by decide +kernel
theorem dX11_commonDivisor_29 : decode cX11_commonDivisor 29 = .ok (.goto (-26), 3) := by decide +kernel
theorem dX11_commonDivisor_32 : decode cX11_commonDivisor 32 = .ok (.lload_n 0, 1) := by decide +kernel
theorem dX11_commonDivisor_33 : decode cX11_commonDivisor 33 = .ok (.lreturn, 1) := by decide +kernel
