set_option maxRecDepth 20000 in
theorem ggX5_init_X4_init : GoodIn wsX5_init wsX4_init := goodIn_r _ [35, 36, 2, 3, 23, 37, 38, 73, 74] (by decide +kernel) (by decide +kernel)
set_option maxRecDepth 20000 in
theorem gX5_init_X4_init_n9 : GoodIn wsX5_init (wsX4_init) := ggX5_init_X4_init
set_option maxRecDepth 20000 in
theorem ggX5_init_X2_init : GoodIn wsX5_init wsX2_init := goodIn_r _ [40, 41, 2, 3, 42, 43, 23, 44, 45, 88, 89, 90, 91] (by decide +kernel) (by decide +kernel)
set_option maxRecDepth 20000 in
theorem gX5_init_X2_init_n18 : GoodIn wsX5_init (wsX2_init) := ggX5_init_X2_init
set_option maxRecDepth 20000 in
theorem ggX5_init_X3_init : GoodIn wsX5_init wsX3_init := goodIn_r _ [48, 49, 2, 3, 50, 51, 52, 53, 54, 23, 55, 56, 57, 58, 92, 93, 94, 95, 96, 97, 98, 99, 100] (by decide +kernel) (by decide +kernel)
set_option maxRecDepth 20000 in
theorem gX5_init_X3_init : GoodIn wsX5_init (wsX3_init) := ggX5_init_X3_init
set_option maxRecDepth 20000 in
theorem ggX5_init_X0_init : GoodIn wsX5_init wsX0_init := goodIn_r _ [61, 62, 2, 3, 63, 64, 65, 66, 13, 14, 67, 47, 48, 49, 50, 51, 52, 53, 54, 23, 55, 56, 57, 58, 101, 102, 103, 92, 93, 94, 95, 96, 97, 98, 99, 100] (by decide +kernel) (by decide +kernel)
set_option maxRecDepth 20000 in
theorem gX5_init_X0_init : GoodIn wsX5_init (wsX0_init) := ggX5_init_X0_init
set_option maxRecDepth 20000 in
theorem ggX5_init_X1_init : GoodIn wsX5_init wsX1_init := goodIn_r _ [69, 70, 2, 3, 71, 72, 104, 105] (by decide +kernel) (by decide +kernel)
set_option maxRecDepth 20000 in
theorem gX5_init_X1_init_n70 : GoodIn wsX5_init (wsX1_init) := ggX5_init_X1_init
theorem dX5_init_0 : decode cX5_init 0 = .ok (.aload_n 0, 1) := by decide +kernel
theorem dX5_init_1 : decode cX5_init 1 = .ok (.invokespecial 1, 3) := by decide +kernel
theorem dX5_init_4 : decode cX5_init 4 = .ok (.aload_n 0, 1) := by decide +kernel
theorem dX5_init_5 : decode cX5_init 5 = .ok (.new 7, 3) := by decide +kernel
theorem dX5_init_8 : decode cX5_init 8 = .ok (.dup, 1) := by decide +kernel
theorem dX5_init_9 : decode cX5_init 9 = .ok (.invokespecial 9, 3) := by decide +kernel
theorem dX5_init_12 : decode cX5_init 12 = .ok (.putfield 10, 3) := by decide +kernel
theorem dX5_init_15 : decode cX5_init 15 = .ok (.aload_n 0, 1) := by decide +kernel
theorem dX5_init_16 : decode cX5_init 16 = .ok (.new 16, 3) := by decide +kernel
theorem dX5_init_19 : decode cX5_init 19 = .ok (.dup, 1) := by decide +kernel
theorem dX5_init_20 : decode cX5_init 20 = .ok (.invokespecial 18, 3) := by decide +kernel
theorem dX5_init_23 : decode cX5_init 23 = .ok (.putfield 19, 3) := by decide +kernel
theorem dX5_init_26 : decode cX5_init 26 = .ok (.aload_n 0, 1) := by decide +kernel
theorem dX5_init_27 : decode cX5_init 27 = .ok (.new 23, 3) := by decide +kernel
theorem dX5_init_30 : decode cX5_init 30 = .ok (.dup, 1) := by decide +kernel
theorem dX5_init_31 : decode cX5_init 31 = .ok (.aload_n 0, 1) := by decide +kernel
theorem dX5_init_32 : decode cX5_init 32 = .ok (.getfield 19, 3) := by decide +kernel
theorem dX5_init_35 : decode cX5_init 35 = .ok (.invokespecial 25, 3) := by decide +kernel
theorem dX5_init_38 : decode cX5_init 38 = .ok (.putfield 28, 3) := by decide +kernel
theorem dX5_init_41 : decode cX5_init 41 = .ok (.aload_n 0, 1) := by decide +kernel
theorem dX5_init_42 : decode cX5_init 42 = .ok (.new 32, 3) := by decide +kernel
theorem dX5_init_45 : decode cX5_init 45 = .ok (.dup, 1) := by decide +kernel
theorem dX5_init_46 : decode cX5_init 46 = .ok (.aload_n 0, 1) := by decide +kernel
theorem dX5_init_47 : decode cX5_init 47 = .ok (.getfield 19, 3) := by decide +kernel
theorem dX5_init_50 : decode cX5_init 50 = .ok (.invokespecial 34, 3) := by decide +kernel
theorem dX5_init_53 : decode cX5_init 53 = .ok (.putfield 35, 3) := by decide +kernel
theorem dX5_init_56 : decode cX5_init 56 = .ok (.aload_n 0, 1) := by decide +kernel
theorem dX5_init_57 : decode cX5_init 57 = .ok (.iconst 2, 1) := by decide +kernel
theorem dX5_init_58 : decode cX5_init 58 = .ok (.anewarray 23, 3) := by decide +kernel
theorem dX5_init_61 : decode cX5_init 61 = .ok (.putfield 39, 3) := by decide +kernel
theorem dX5_init_64 : decode cX5_init 64 = .ok (.iconst 0, 1) := by decide +kernel
theorem dX5_init_65 : decode cX5_init 65 = .ok (.istore_n 1, 1) := by decide +kernel
theorem dX5_init_66 : decode cX5_init 66 = .ok (.iload_n 1, 1) := by decide +kernel
theorem dX5_init_67 : decode cX5_init 67 = .ok (.iconst 2, 1) := by decide +kernel
theorem dX5_init_68 : decode cX5_init 68 = .ok (.if_icmp .ge 26, 3) := by decide +kernel
theorem dX5_init_71 : decode cX5_init 71 = .ok (.aload_n 0, 1) := by decide +kernel
theorem dX5_init_72 : decode cX5_init 72 = .ok (.getfield 39, 3) := by decide +kernel
theorem dX5_init_75 : decode cX5_init 75 = .ok (.iload_n 1, 1) := by decide +kernel
theorem dX5_init_76 : decode cX5_init 76 = .ok (.new 23, 3) := by decide +kernel
theorem dX5_init_79 : decode cX5_init 79 = .ok (.dup, 1) := by decide +kernel
theorem dX5_init_80 : decode cX5_init 80 = .ok (.aload_n 0, 1) := by decide +kernel
theorem dX5_init_81 : decode cX5_init 81 = .ok (.getfield 19, 3) := by decide +kernel
theorem dX5_init_84 : decode cX5_init 84 = .ok (.invokespecial 25, 3) := by decide +kernel
theorem dX5_init_87 : decode cX5_init 87 = .ok (.aastore, 1) := by decide +kernel
theorem dX5_init_88 : decode cX5_init 88 = .ok (.iinc 1 1, 3) := by decide +kernel
theorem dX5_init_91 : decode cX5_init 91 = .ok (.goto (-25), 3) := by decide +kernel
theorem dX5_init_94 : decode cX5_init 94 = .ok (.aload_n 0, 1) := by decide +kernel
theorem dX5_init_95 : decode cX5_init 95 = .ok (.iconst 2, 1) := by decide +kernel
theorem dX5_init_96 : decode cX5_init 96 = .ok (.newarray .boolean, 2) := by decide +kernel
theorem dX5_init_98 : decode cX5_init 98 = .ok (.putfield 43, 3) := by decide +kernel
theorem dX5_init_101 : decode cX5_init 101 = .ok (.aload_n 0, 1) := by decide +kernel
theorem dX5_init_102 : decode cX5_init 102 = .ok (.bipush 6, 2) := by decide +kernel
theorem dX5_init_104 : decode cX5_init 104 = .ok (.newarray .int, 2) := by decide +kernel
theorem dX5_init_106 : decode cX5_init 106 = .ok (.putfield 47, 3) := by decide +kernel
theorem dX5_init_109 : decode cX5_init 109 = .ok (.aload_n 0, 1) := by decide +kernel
theorem dX5_init_110 : decode cX5_init 110 = .ok (.bipush 6, 2) := by decide +kernel
theorem dX5_init_112 : decode cX5_init 112 = .ok (.newarray .boolean, 2) := by decide +kernel
theorem dX5_init_114 : decode cX5_init 114 = .ok (.putfield 51, 3) := by decide +kernel
theorem dX5_init_117 : decode cX5_init 117 = .ok (.aload_n 0, 1) := by decide +kernel
theorem dX5_init_118 : decode cX5_init 118 = .ok (.iconst 0, 1) := by decide +kernel
theorem dX5_init_119 : decode cX5_init 119 = .ok (.putfield 54, 3) := by decide +kernel
theorem dX5_init_122 : decode cX5_init 122 = .ok (.aload_n 0, 1) := by decide +kernel
theorem dX5_init_123 : decode cX5_init 123 = .ok (.lconst 0, 1) := by decide +kernel
theorem dX5_init_124 : decode cX5_init 124 = .ok (.putfield 58, 3) := by decide +kernel
theorem dX5_init_127 : decode cX5_init 127 = .ok (.aload_n 0, 1) := by decide +kernel
theorem dX5_init_128 : decode cX5_init 128 = .ok (.new 23, 3) := by decide +kernel
theorem dX5_init_131 : decode cX5_init 131 = .ok (.dup, 1) := by decide +kernel
theorem dX5_init_132 : decode cX5_init 132 = .ok (.aload_n 0, 1) := by decide +kernel
theorem dX5_init_133 : decode cX5_init 133 = .ok (.getfield 19, 3) := by decide +kernel
theorem dX5_init_136 : decode cX5_init 136 = .ok (.invokespecial 25, 3) := by decide +kernel
theorem dX5_init_139 : decode cX5_init 139 = .ok (.putfield 62, 3) := by decide +kernel
theorem dX5_init_142 : decode cX5_init 142 = .ok (.aload_n 0, 1) := by decide +kernel
theorem dX5_init_143 : decode cX5_init 143 = .ok (.new 23, 3) := by decide +kernel
theorem dX5_init_146 : decode cX5_init 146 = .ok (.dup, 1) := by decide +kernel
theorem dX5_init_147 : decode cX5_init 147 = .ok (.aload_n 0, 1) := by decide +kernel
theorem dX5_init_148 : decode cX5_init 148 = .ok (.getfield 19, 3) := by decide +kernel
theorem dX5_init_151 : decode cX5_init 151 = .ok (.invokespecial 25, 3) := by decide +kernel
theorem dX5_init_154 : decode cX5_init 154 = .ok (.putfield 65, 3) := by decide +kernel
theorem dX5_init_157 : decode cX5_init 157 = .ok (.aload_n 0, 1) := by decide +kernel
theorem dX5_init_158 : decode cX5_init 158 = .ok (.new 68, 3) := by decide +kernel
theorem dX5_init_161 : decode cX5_init 161 = .ok (.dup, 1) := by decide +kernel
theorem dX5_init_162 : decode cX5_init 162 = .ok (.invokespecial 70, 3) := by decide +kernel
theorem dX5_init_165 : decode cX5_init 165 = .ok (.putfield 71, 3) := by decide +kernel
theorem dX5_init_168 : decode cX5_init 168 = .ok (.return_, 1) := by decide +kernel
set_option maxRecDepth 20000 in
theorem ggX5_write_X5_isWithin : GoodIn wsX5_write wsX5_isWithin := goodIn_r _ [5] (by decide +kernel) (by decide +kernel)
set_option maxRecDepth 20000 in
theorem gX5_write_X5_isWithin : GoodIn wsX5_write (va_wsS RX5 75 yX5_isWithin wsX5_isWithin) := goodIn_app (goodIn_of _ (by decide +kernel)) ggX5_write_X5_isWithin
set_option maxRecDepth 20000 in
theorem ggX5_write_X4_append : GoodIn wsX5_write wsX4_append := goodIn_r _ [10, 11, 12, 26, 27] (by decide +kernel) (by decide +kernel)
set_option maxRecDepth 20000 in
theorem gX5_write_X4_append : GoodIn wsX5_write (wsV RX5 82 RX4 yX4_append wsX4_append) := goodIn_app (goodIn_of _ (by decide +kernel)) ggX5_write_X4_append
theorem dX5_write_0 : decode cX5_write 0 = .ok (.iload_n 1, 1) := by decide +kernel
theorem dX5_write_1 : decode cX5_write 1 = .ok (.iconst 0, 1) := by decide +kernel
theorem dX5_write_2 : decode cX5_write 2 = .ok (.sipush 255, 3) := by decide +kernel
theorem dX5_write_5 : decode cX5_write 5 = .ok (.invokestatic 75, 3) := by decide +kernel
theorem dX5_write_8 : decode cX5_write 8 = .ok (.ifCond .ne 6, 3) := by decide +kernel
theorem dX5_write_11 : decode cX5_write 11 = .ok (.bipush (-2), 2) := by decide +kernel
theorem dX5_write_13 : decode cX5_write 13 = .ok (.ireturn, 1) := by decide +kernel
theorem dX5_write_14 : decode cX5_write 14 = .ok (.aload_n 0, 1) := by decide +kernel
theorem dX5_write_15 : decode cX5_write 15 = .ok (.getfield 10, 3) := by decide +kernel
theorem dX5_write_18 : decode cX5_write 18 = .ok (.getfield 79, 3) := by decide +kernel
theorem dX5_write_21 : decode cX5_write 21 = .ok (.bipush 64, 2) := by decide +kernel
theorem dX5_write_23 : decode cX5_write 23 = .ok (.if_icmp .lt 6, 3) := by decide +kernel
theorem dX5_write_26 : decode cX5_write 26 = .ok (.bipush (-4), 2) := by decide +kernel
theorem dX5_write_28 : decode cX5_write 28 = .ok (.ireturn, 1) := by decide +kernel
theorem dX5_write_29 : decode cX5_write 29 = .ok (.aload_n 0, 1) := by decide +kernel
theorem dX5_write_30 : decode cX5_write 30 = .ok (.getfield 10, 3) := by decide +kernel
theorem dX5_write_33 : decode cX5_write 33 = .ok (.iload_n 1, 1) := by decide +kernel
theorem dX5_write_34 : decode cX5_write 34 = .ok (.invokevirtual 82, 3) := by decide +kernel
theorem dX5_write_37 : decode cX5_write 37 = .ok (.aload_n 0, 1) := by decide +kernel
theorem dX5_write_38 : decode cX5_write 38 = .ok (.getfield 10, 3) := by decide +kernel
theorem dX5_write_41 : decode cX5_write 41 = .ok (.getfield 79, 3) := by decide +kernel
theorem dX5_write_44 : decode cX5_write 44 = .ok (.ireturn, 1) := by decide +kernel
set_option maxRecDepth 20000 in
theorem ggX5_wipe_X4_clear : GoodIn wsX5_wipe wsX4_clear := goodIn_r _ [6, 7, 21, 22] (by decide +kernel) (by decide +kernel)
set_option maxRecDepth 20000 in
theorem gX5_wipe_X4_clear : GoodIn wsX5_wipe (wsV RX5 86 RX4 yX4_clear wsX4_clear) := goodIn_app (goodIn_of _ (by decide +kernel)) ggX5_wipe_X4_clear
theorem dX5_wipe_0 : decode cX5_wipe 0 = .ok (.aload_n 0, 1) := by decide +kernel
theorem dX5_wipe_1 : decode cX5_wipe 1 = .ok (.getfield 10, 3) := by decide +kernel
theorem dX5_wipe_4 : decode cX5_wipe 4 = .ok (.getfield 79, 3) := by decide +kernel
theorem dX5_wipe_7 : decode cX5_wipe 7 = .ok (.istore_n 1, 1) := by decide +kernel
theorem dX5_wipe_8 : decode cX5_wipe 8 = .ok (.aload_n 0, 1) := by decide +kernel
theorem dX5_wipe_9 : decode cX5_wipe 9 = .ok (.getfield 10, 3) := by decide +kernel
theorem dX5_wipe_12 : decode cX5_wipe 12 = .ok (.invokevirtual 86, 3) := by decide +kernel
theorem dX5_wipe_15 : decode cX5_wipe 15 = .ok (.iload_n 1, 1) := by decide +kernel
theorem dX5_wipe_16 : decode cX5_wipe 16 = .ok (.ireturn, 1) := by decide +kernel
set_option maxRecDepth 20000 in
theorem ggX5_fault_X4_firstFault : GoodIn wsX5_fault wsX4_firstFault := goodIn_r _ [6, 7, 8, 9, 10, 5, 11, 12, 13, 14, 15, 16, 17, 18, 19, 33, 34] (by decide +kernel) (by decide +kernel)
set_option maxRecDepth 20000 in
theorem gX5_fault_X4_firstFault : GoodIn wsX5_fault (wsV RX5 89 RX4 yX4_firstFault wsX4_firstFault) := goodIn_app (goodIn_of _ (by decide +kernel)) ggX5_fault_X4_firstFault
theorem dX5_fault_0 : decode cX5_fault 0 = .ok (.aload_n 0, 1) := by decide +kernel
theorem dX5_fault_1 : decode cX5_fault 1 = .ok (.getfield 10, 3) := by decide +kernel
theorem dX5_fault_4 : decode cX5_fault 4 = .ok (.invokevirtual 89, 3) := by decide +kernel
theorem dX5_fault_7 : decode cX5_fault 7 = .ok (.ireturn, 1) := by decide +kernel
set_option maxRecDepth 20000 in
theorem ggX5_square_X4_firstFault : GoodIn wsX5_square wsX4_firstFault := goodIn_r _ [10, 11, 12, 13, 14, 9, 15, 16, 17, 18, 19, 20, 21, 22, 23, 90, 91] (by decide +kernel) (by decide +kernel)
set_option maxRecDepth 20000 in
theorem gX5_square_X4_firstFault : GoodIn wsX5_square (wsV RX5 89 RX4 yX4_firstFault wsX4_firstFault) := goodIn_app (goodIn_of _ (by decide +kernel)) ggX5_square_X4_firstFault
set_option maxRecDepth 20000 in
theorem ggX5_square_X2_learn : GoodIn wsX5_square wsX2_learn := goodIn_r _ [28, 29, 30, 31, 32, 33, 13, 14, 9, 15, 11, 16, 34, 35, 27, 36, 86, 87, 88, 89, 90, 91] (by decide +kernel) (by decide +kernel)
set_option maxRecDepth 20000 in
theorem gX5_square_X2_learn : GoodIn wsX5_square (wsV RX5 93 RX2 yX2_learn wsX2_learn) := goodIn_app (goodIn_of _ (by decide +kernel)) ggX5_square_X2_learn
set_option maxRecDepth 20000 in
theorem ggX5_square_X3_open : GoodIn wsX5_square wsX3_open := goodIn_r _ [41, 42, 43, 44, 45, 46, 47, 48, 49, 50, 51, 52, 53, 54, 55, 56, 57, 27, 58, 31, 59, 60, 61, 62, 63, 64, 65, 29, 21, 22, 23, 92, 93, 94, 95, 96, 97, 98, 99, 100, 86, 87, 88, 89] (by decide +kernel) (by decide +kernel)
set_option maxRecDepth 20000 in
theorem gX5_square_X3_open : GoodIn wsX5_square (wsV RX5 97 RX3 yX3_open wsX3_open) := goodIn_app (goodIn_of _ (by decide +kernel)) ggX5_square_X3_open
set_option maxRecDepth 20000 in
theorem ggX5_square_X0_forgetAll : GoodIn wsX5_square wsX0_forgetAll := goodIn_r _ [70, 71, 72, 101, 102, 103] (by decide +kernel) (by decide +kernel)
set_option maxRecDepth 20000 in
theorem gX5_square_X0_forgetAll : GoodIn wsX5_square (wsV RX5 100 RX0 yX0_forgetAll wsX0_forgetAll) := goodIn_app (goodIn_of _ (by decide +kernel)) ggX5_square_X0_forgetAll
theorem dX5_square_0 : decode cX5_square 0 = .ok (.aload_n 0, 1) := by decide +kernel
theorem dX5_square_1 : decode cX5_square 1 = .ok (.getfield 10, 3) := by decide +kernel
theorem dX5_square_4 : decode cX5_square 4 = .ok (.invokevirtual 89, 3) := by decide +kernel
theorem dX5_square_7 : decode cX5_square 7 = .ok (.bipush (-9), 2) := by decide +kernel
theorem dX5_square_9 : decode cX5_square 9 = .ok (.if_icmp .eq 6, 3) := by decide +kernel
theorem dX5_square_12 : decode cX5_square 12 = .ok (.bipush (-3), 2) := by decide +kernel
theorem dX5_square_14 : decode cX5_square 14 = .ok (.ireturn, 1) := by decide +kernel
theorem dX5_square_15 : decode cX5_square 15 = .ok (.aload_n 0, 1) := by decide +kernel
theorem dX5_square_16 : decode cX5_square 16 = .ok (.getfield 19, 3) := by decide +kernel
theorem dX5_square_19 : decode cX5_square 19 = .ok (.aload_n 0, 1) := by decide +kernel
theorem dX5_square_20 : decode cX5_square 20 = .ok (.getfield 10, 3) := by decide +kernel
theorem dX5_square_23 : decode cX5_square 23 = .ok (.invokevirtual 93, 3) := by decide +kernel
theorem dX5_square_26 : decode cX5_square 26 = .ok (.aload_n 0, 1) := by decide +kernel
theorem dX5_square_27 : decode cX5_square 27 = .ok (.getfield 28, 3) := by decide +kernel
theorem dX5_square_30 : decode cX5_square 30 = .ok (.invokevirtual 97, 3) := by decide +kernel
theorem dX5_square_33 : decode cX5_square 33 = .ok (.aload_n 0, 1) := by decide +kernel
theorem dX5_square_34 : decode cX5_square 34 = .ok (.getfield 35, 3) := by decide +kernel
theorem dX5_square_37 : decode cX5_square 37 = .ok (.invokevirtual 100, 3) := by decide +kernel
theorem dX5_square_40 : decode cX5_square 40 = .ok (.iconst 0, 1) := by decide +kernel
theorem dX5_square_41 : decode cX5_square 41 = .ok (.istore_n 1, 1) := by decide +kernel
theorem dX5_square_42 : decode cX5_square 42 = .ok (.iload_n 1, 1) := by decide +kernel
theorem dX5_square_43 : decode cX5_square 43 = .ok (.iconst 2, 1) := by decide +kernel
theorem dX5_square_44 : decode cX5_square 44 = .ok (.if_icmp .ge 16, 3) := by decide +kernel
theorem dX5_square_47 : decode cX5_square 47 = .ok (.aload_n 0, 1) := by decide +kernel
theorem dX5_square_48 : decode cX5_square 48 = .ok (.getfield 43, 3) := by decide +kernel
theorem dX5_square_51 : decode cX5_square 51 = .ok (.iload_n 1, 1) := by decide +kernel
theorem dX5_square_52 : decode cX5_square 52 = .ok (.iconst 0, 1) := by decide +kernel
theorem dX5_square_53 : decode cX5_square 53 = .ok (.bastore, 1) := by decide +kernel
theorem dX5_square_54 : decode cX5_square 54 = .ok (.iinc 1 1, 3) := by decide +kernel
theorem dX5_square_57 : decode cX5_square 57 = .ok (.goto (-15), 3) := by decide +kernel
theorem dX5_square_60 : decode cX5_square 60 = .ok (.bipush 10, 2) := by decide +kernel
theorem dX5_square_62 : decode cX5_square 62 = .ok (.aload_n 0, 1) := by decide +kernel
theorem dX5_square_63 : decode cX5_square 63 = .ok (.getfield 19, 3) := by decide +kernel
theorem dX5_square_66 : decode cX5_square 66 = .ok (.getfield 103, 3) := by decide +kernel
theorem dX5_square_69 : decode cX5_square 69 = .ok (.imul, 1) := by decide +kernel
theorem dX5_square_70 : decode cX5_square 70 = .ok (.aload_n 0, 1) := by decide +kernel
theorem dX5_square_71 : decode cX5_square 71 = .ok (.getfield 19, 3) := by decide +kernel
theorem dX5_square_74 : decode cX5_square 74 = .ok (.getfield 106, 3) := by decide +kernel
theorem dX5_square_77 : decode cX5_square 77 = .ok (.iadd, 1) := by decide +kernel
theorem dX5_square_78 : decode cX5_square 78 = .ok (.ireturn, 1) := by decide +kernel
theorem dX5_about_0 : decode cX5_about 0 = .ok (.iload_n 1, 1) := by decide +kernel
theorem dX5_about_1 : decode cX5_about 1 = .ok (.tableswitch 132 0 9 #[55, 63, 71, 79, 87, 95, 103, 111, 119, 124], 55) := by decide +kernel
theorem dX5_about_56 : decode cX5_about 56 = .ok (.aload_n 0, 1) := by decide +kernel
theorem dX5_about_57 : decode cX5_about 57 = .ok (.getfield 19, 3) := by decide +kernel
theorem dX5_about_60 : decode cX5_about 60 = .ok (.getfield 103, 3) := by decide +kernel
theorem dX5_about_63 : decode cX5_about 63 = .ok (.ireturn, 1) := by decide +kernel
theorem dX5_about_64 : decode cX5_about 64 = .ok (.aload_n 0, 1) := by decide +kernel
theorem dX5_about_65 : decode cX5_about 65 = .ok (.getfield 19, 3) := by decide +kernel
theorem dX5_about_68 : decode cX5_about 68 = .ok (.getfield 106, 3) := by decide +kernel
theorem dX5_about_71 : decode cX5_about 71 = .ok (.ireturn, 1) := by decide +kernel
theorem dX5_about_72 : decode cX5_about 72 = .ok (.aload_n 0, 1) := by decide +kernel
theorem dX5_about_73 : decode cX5_about 73 = .ok (.getfield 28, 3) := by decide +kernel
theorem dX5_about_76 : decode cX5_about 76 = .ok (.getfield 109, 3) := by decide +kernel
theorem dX5_about_79 : decode cX5_about 79 = .ok (.ireturn, 1) := by decide +kernel
theorem dX5_about_80 : decode cX5_about 80 = .ok (.aload_n 0, 1) := by decide +kernel
theorem dX5_about_81 : decode cX5_about 81 = .ok (.getfield 28, 3) := by decide +kernel
theorem dX5_about_84 : decode cX5_about 84 = .ok (.getfield 112, 3) := by decide +kernel
theorem dX5_about_87 : decode cX5_about 87 = .ok (.ireturn, 1) := by decide +kernel
theorem dX5_about_88 : decode cX5_about 88 = .ok (.aload_n 0, 1) := by decide +kernel
theorem dX5_about_89 : decode cX5_about 89 = .ok (.getfield 28, 3) := by decide +kernel
theorem dX5_about_92 : decode cX5_about 92 = .ok (.getfield 115, 3) := by decide +kernel
theorem dX5_about_95 : decode cX5_about 95 = .ok (.ireturn, 1) := by decide +kernel
theorem dX5_about_96 : decode cX5_about 96 = .ok (.aload_n 0, 1) := by decide +kernel
theorem dX5_about_97 : decode cX5_about 97 = .ok (.getfield 28, 3) := by decide +kernel
theorem dX5_about_100 : decode cX5_about 100 = .ok (.getfield 118, 3) := by decide +kernel
theorem dX5_about_103 : decode cX5_about 103 = .ok (.ireturn, 1) := by decide +kernel
theorem dX5_about_104 : decode cX5_about 104 = .ok (.aload_n 0, 1) := by decide +kernel
theorem dX5_about_105 : decode cX5_about 105 = .ok (.getfield 28, 3) := by decide +kernel
theorem dX5_about_108 : decode cX5_about 108 = .ok (.getfield 121, 3) := by decide +kernel
theorem dX5_about_111 : decode cX5_about 111 = .ok (.ireturn, 1) := by decide +kernel
theorem dX5_about_112 : decode cX5_about 112 = .ok (.aload_n 0, 1) := by decide +kernel
theorem dX5_about_113 : decode cX5_about 113 = .ok (.getfield 35, 3) := by decide +kernel
theorem dX5_about_116 : decode cX5_about 116 = .ok (.getfield 124, 3) := by decide +kernel
theorem dX5_about_119 : decode cX5_about 119 = .ok (.ireturn, 1) := by decide +kernel
theorem dX5_about_120 : decode cX5_about 120 = .ok (.aload_n 0, 1) := by decide +kernel
theorem dX5_about_121 : decode cX5_about 121 = .ok (.getfield 54, 3) := by decide +kernel
theorem dX5_about_124 : decode cX5_about 124 = .ok (.ireturn, 1) := by decide +kernel
theorem dX5_about_125 : decode cX5_about 125 = .ok (.aload_n 0, 1) := by decide +kernel
theorem dX5_about_126 : decode cX5_about 126 = .ok (.getfield 10, 3) := by decide +kernel
theorem dX5_about_129 : decode cX5_about 129 = .ok (.getfield 79, 3) := by decide +kernel
theorem dX5_about_132 : decode cX5_about 132 = .ok (.ireturn, 1) := by decide +kernel
theorem dX5_about_133 : decode cX5_about 133 = .ok (.bipush (-2), 2) := by decide +kernel
theorem dX5_about_135 : decode cX5_about 135 = .ok (.ireturn, 1) := by decide +kernel
set_option maxRecDepth 20000 in
theorem ggX5_person_X2_hasPerson : GoodIn wsX5_person wsX2_hasPerson := goodIn_r _ [7, 8, 9, 10, 11, 54, 55, 56, 57] (by decide +kernel) (by decide +kernel)
set_option maxRecDepth 20000 in
theorem gX5_person_X2_hasPerson : GoodIn wsX5_person (wsV RX5 127 RX2 yX2_hasPerson wsX2_hasPerson) := goodIn_app (goodIn_of _ (by decide +kernel)) ggX5_person_X2_hasPerson
set_option maxRecDepth 20000 in
theorem ggX5_person_X3_moodOf : GoodIn wsX5_person wsX3_moodOf := goodIn_r _ [16, 17, 58, 59, 60, 61, 62, 63, 64, 65, 66] (by decide +kernel) (by decide +kernel)
set_option maxRecDepth 20000 in
theorem gX5_person_X3_moodOf : GoodIn wsX5_person (wsV RX5 131 RX3 yX3_moodOf wsX3_moodOf) := goodIn_app (goodIn_of _ (by decide +kernel)) ggX5_person_X3_moodOf
set_option maxRecDepth 20000 in
theorem ggX5_person_X3_patienceOf : GoodIn wsX5_person wsX3_patienceOf := goodIn_r _ [21, 22, 58, 59, 60, 61, 62, 63, 64, 65, 66] (by decide +kernel) (by decide +kernel)
set_option maxRecDepth 20000 in
theorem gX5_person_X3_patienceOf : GoodIn wsX5_person (wsV RX5 135 RX3 yX3_patienceOf wsX3_patienceOf) := goodIn_app (goodIn_of _ (by decide +kernel)) ggX5_person_X3_patienceOf
set_option maxRecDepth 20000 in
theorem ggX5_person_X3_giftOf : GoodIn wsX5_person wsX3_giftOf := goodIn_r _ [26, 27, 28, 29, 30, 31, 32, 13, 14, 15, 16, 17, 58, 59, 60, 61, 62, 63, 64, 65, 66] (by decide +kernel) (by decide +kernel)
set_option maxRecDepth 20000 in
theorem gX5_person_X3_giftOf : GoodIn wsX5_person (wsV RX5 138 RX3 yX3_giftOf wsX3_giftOf) := goodIn_app (goodIn_of _ (by decide +kernel)) ggX5_person_X3_giftOf
set_option maxRecDepth 20000 in
theorem ggX5_person_X2_ofPerson : GoodIn wsX5_person wsX2_ofPerson := goodIn_r _ [36, 37, 38, 39, 6, 40, 54, 55, 56, 57] (by decide +kernel) (by decide +kernel)
set_option maxRecDepth 20000 in
theorem gX5_person_X2_ofPerson : GoodIn wsX5_person (wsV RX5 141 RX2 yX2_ofPerson wsX2_ofPerson) := goodIn_app (goodIn_of _ (by decide +kernel)) ggX5_person_X2_ofPerson
theorem dX5_person_0 : decode cX5_person 0 = .ok (.aload_n 0, 1) := by decide +kernel
theorem dX5_person_1 : decode cX5_person 1 = .ok (.getfield 19, 3) := by decide +kernel
theorem dX5_person_4 : decode cX5_person 4 = .ok (.iload_n 1, 1) := by decide +kernel
theorem dX5_person_5 : decode cX5_person 5 = .ok (.invokevirtual 127, 3) := by decide +kernel
theorem dX5_person_8 : decode cX5_person 8 = .ok (.ifCond .ne 5, 3) := by decide +kernel
theorem dX5_person_11 : decode cX5_person 11 = .ok (.iconst (-1), 1) := by decide +kernel
theorem dX5_person_12 : decode cX5_person 12 = .ok (.ireturn, 1) := by decide +kernel
theorem dX5_person_13 : decode cX5_person 13 = .ok (.iload_n 2, 1) := by decide +kernel
theorem dX5_person_14 : decode cX5_person 14 = .ok (.tableswitch 95 0 6 #[85, 42, 51, 85, 85, 85, 76], 42) := by decide +kernel
theorem dX5_person_56 : decode cX5_person 56 = .ok (.aload_n 0, 1) := by decide +kernel
theorem dX5_person_57 : decode cX5_person 57 = .ok (.getfield 28, 3) := by decide +kernel
theorem dX5_person_60 : decode cX5_person 60 = .ok (.iload_n 1, 1) := by decide +kernel
theorem dX5_person_61 : decode cX5_person 61 = .ok (.invokevirtual 131, 3) := by decide +kernel
theorem dX5_person_64 : decode cX5_person 64 = .ok (.ireturn, 1) := by decide +kernel
theorem dX5_person_65 : decode cX5_person 65 = .ok (.aload_n 0, 1) := by decide +kernel
theorem dX5_person_66 : decode cX5_person 66 = .ok (.getfield 28, 3) := by decide +kernel
theorem dX5_person_69 : decode cX5_person 69 = .ok (.iload_n 1, 1) := by decide +kernel
theorem dX5_person_70 : decode cX5_person 70 = .ok (.invokevirtual 135, 3) := by decide +kernel
theorem dX5_person_73 : decode cX5_person 73 = .ok (.ifCond .ge 8, 3) := by decide +kernel
theorem dX5_person_76 : decode cX5_person 76 = .ok (.bipush (-9), 2) := by decide +kernel
theorem dX5_person_78 : decode cX5_person 78 = .ok (.goto 11, 3) := by decide +kernel
theorem dX5_person_81 : decode cX5_person 81 = .ok (.aload_n 0, 1) := by decide +kernel
theorem dX5_person_82 : decode cX5_person 82 = .ok (.getfield 28, 3) := by decide +kernel
theorem dX5_person_85 : decode cX5_person 85 = .ok (.iload_n 1, 1) := by decide +kernel
theorem dX5_person_86 : decode cX5_person 86 = .ok (.invokevirtual 135, 3) := by decide +kernel
theorem dX5_person_89 : decode cX5_person 89 = .ok (.ireturn, 1) := by decide +kernel
theorem dX5_person_90 : decode cX5_person 90 = .ok (.aload_n 0, 1) := by decide +kernel
theorem dX5_person_91 : decode cX5_person 91 = .ok (.getfield 28, 3) := by decide +kernel
theorem dX5_person_94 : decode cX5_person 94 = .ok (.iload_n 1, 1) := by decide +kernel
theorem dX5_person_95 : decode cX5_person 95 = .ok (.invokevirtual 138, 3) := by decide +kernel
theorem dX5_person_98 : decode cX5_person 98 = .ok (.ireturn, 1) := by decide +kernel
theorem dX5_person_99 : decode cX5_person 99 = .ok (.aload_n 0, 1) := by decide +kernel
theorem dX5_person_100 : decode cX5_person 100 = .ok (.getfield 19, 3) := by decide +kernel
theorem dX5_person_103 : decode cX5_person 103 = .ok (.iload_n 1, 1) := by decide +kernel
theorem dX5_person_104 : decode cX5_person 104 = .ok (.iload_n 2, 1) := by decide +kernel
theorem dX5_person_105 : decode cX5_person 105 = .ok (.invokevirtual 141, 3) := by decide +kernel
theorem dX5_person_108 : decode cX5_person 108 = .ok (.ireturn, 1) := by decide +kernel
theorem dX5_person_109 : decode cX5_person 109 = .ok (.bipush (-2), 2) := by decide +kernel
theorem dX5_person_111 : decode cX5_person 111 = .ok (.ireturn, 1) := by decide +kernel
set_option maxRecDepth 20000 in
theorem ggX5_tune_X2_hasTune : GoodIn wsX5_tune wsX2_hasTune := goodIn_r _ [7, 8, 9, 10, 11, 39, 40, 41, 42] (by decide +kernel) (by decide +kernel)
set_option maxRecDepth 20000 in
theorem gX5_tune_X2_hasTune : GoodIn wsX5_tune (wsV RX5 145 RX2 yX2_hasTune wsX2_hasTune) := goodIn_app (goodIn_of _ (by decide +kernel)) ggX5_tune_X2_hasTune
set_option maxRecDepth 20000 in
theorem ggX5_tune_X2_ofTune : GoodIn wsX5_tune wsX2_ofTune := goodIn_r _ [15, 16, 17, 18, 6, 19, 39, 40, 41, 42] (by decide +kernel) (by decide +kernel)
set_option maxRecDepth 20000 in
theorem gX5_tune_X2_ofTune : GoodIn wsX5_tune (wsV RX5 148 RX2 yX2_ofTune wsX2_ofTune) := goodIn_app (goodIn_of _ (by decide +kernel)) ggX5_tune_X2_ofTune
set_option maxRecDepth 20000 in
theorem ggX5_tune_X3_timesPlayed : GoodIn wsX5_tune wsX3_timesPlayed := goodIn_r _ [24, 25, 43, 44, 45, 46, 47, 48, 49, 50, 51] (by decide +kernel) (by decide +kernel)
set_option maxRecDepth 20000 in
theorem gX5_tune_X3_timesPlayed : GoodIn wsX5_tune (wsV RX5 151 RX3 yX3_timesPlayed wsX3_timesPlayed) := goodIn_app (goodIn_of _ (by decide +kernel)) ggX5_tune_X3_timesPlayed
theorem dX5_tune_0 : decode cX5_tune 0 = .ok (.aload_n 0, 1) := by decide +kernel
theorem dX5_tune_1 : decode cX5_tune 1 = .ok (.getfield 19, 3) := by decide +kernel
theorem dX5_tune_4 : decode cX5_tune 4 = .ok (.iload_n 1, 1) := by decide +kernel
theorem dX5_tune_5 : decode cX5_tune 5 = .ok (.invokevirtual 145, 3) := by decide +kernel
theorem dX5_tune_8 : decode cX5_tune 8 = .ok (.ifCond .ne 5, 3) := by decide +kernel
theorem dX5_tune_11 : decode cX5_tune 11 = .ok (.iconst (-1), 1) := by decide +kernel
theorem dX5_tune_12 : decode cX5_tune 12 = .ok (.ireturn, 1) := by decide +kernel
theorem dX5_tune_13 : decode cX5_tune 13 = .ok (.iload_n 2, 1) := by decide +kernel
theorem dX5_tune_14 : decode cX5_tune 14 = .ok (.tableswitch 49 0 3 #[30, 30, 30, 40], 30) := by decide +kernel
theorem dX5_tune_44 : decode cX5_tune 44 = .ok (.aload_n 0, 1) := by decide +kernel
theorem dX5_tune_45 : decode cX5_tune 45 = .ok (.getfield 19, 3) := by decide +kernel
theorem dX5_tune_48 : decode cX5_tune 48 = .ok (.iload_n 1, 1) := by decide +kernel
theorem dX5_tune_49 : decode cX5_tune 49 = .ok (.iload_n 2, 1) := by decide +kernel
theorem dX5_tune_50 : decode cX5_tune 50 = .ok (.invokevirtual 148, 3) := by decide +kernel
theorem dX5_tune_53 : decode cX5_tune 53 = .ok (.ireturn, 1) := by decide +kernel
theorem dX5_tune_54 : decode cX5_tune 54 = .ok (.aload_n 0, 1) := by decide +kernel
theorem dX5_tune_55 : decode cX5_tune 55 = .ok (.getfield 28, 3) := by decide +kernel
theorem dX5_tune_58 : decode cX5_tune 58 = .ok (.iload_n 1, 1) := by decide +kernel
theorem dX5_tune_59 : decode cX5_tune 59 = .ok (.invokevirtual 151, 3) := by decide +kernel
theorem dX5_tune_62 : decode cX5_tune 62 = .ok (.ireturn, 1) := by decide +kernel
theorem dX5_tune_63 : decode cX5_tune 63 = .ok (.bipush (-2), 2) := by decide +kernel
theorem dX5_tune_65 : decode cX5_tune 65 = .ok (.ireturn, 1) := by decide +kernel
set_option maxRecDepth 20000 in
theorem ggX5_play_X2_hasTune : GoodIn wsX5_play wsX2_hasTune := goodIn_r _ [8, 9, 10, 11, 12, 95, 96, 97, 98] (by decide +kernel) (by decide +kernel)
set_option maxRecDepth 20000 in
theorem gX5_play_X2_hasTune : GoodIn wsX5_play (wsV RX5 145 RX2 yX2_hasTune wsX2_hasTune) := goodIn_app (goodIn_of _ (by decide +kernel)) ggX5_play_X2_hasTune
set_option maxRecDepth 20000 in
theorem ggX5_play_X0_remember : GoodIn wsX5_play wsX0_remember := goodIn_r _ [17, 18, 19, 20, 21, 22, 23, 24, 25, 26, 27, 28, 29, 30, 31, 32, 33, 34, 35, 36, 37, 99, 100, 101, 102, 103, 104, 105, 106, 107, 108, 109, 110] (by decide +kernel) (by decide +kernel)
set_option maxRecDepth 20000 in
theorem gX5_play_X0_remember : GoodIn wsX5_play (wsV RX5 154 RX0 yX0_remember wsX0_remember) := goodIn_app (goodIn_of _ (by decide +kernel)) ggX5_play_X0_remember
set_option maxRecDepth 20000 in
theorem ggX5_play_X3_hear : GoodIn wsX5_play wsX3_hear := goodIn_r _ [41, 42, 37, 43, 44, 45, 46, 29, 36, 31, 47, 48, 49, 26, 50, 5, 6, 7, 8, 9, 10, 11, 12, 51, 52, 53, 54, 55, 56, 57, 58, 59, 60, 61, 62, 63, 64, 65, 66, 67, 68, 24, 69, 30, 70, 71, 72, 73, 74, 75, 76, 77, 78, 79, 80, 102, 103, 104, 105, 106, 107, 108, 109, 110, 95, 96, 97, 98] (by decide +kernel) (by decide +kernel)
set_option maxRecDepth 20000 in
theorem gX5_play_X3_hear : GoodIn wsX5_play (wsV RX5 158 RX3 yX3_hear wsX3_hear) := goodIn_app (goodIn_of _ (by decide +kernel)) ggX5_play_X3_hear
set_option maxRecDepth 20000 in
theorem ggX5_play_X3_ringSize : GoodIn wsX5_play wsX3_ringSize := goodIn_r _ [73, 29, 74, 75, 76, 77, 78, 79, 80, 102, 103, 104, 105, 106, 107, 108, 109, 110] (by decide +kernel) (by decide +kernel)
set_option maxRecDepth 20000 in
theorem gX5_play_X3_ringSize : GoodIn wsX5_play (wsV RX5 161 RX3 yX3_ringSize wsX3_ringSize) := goodIn_app (goodIn_of _ (by decide +kernel)) ggX5_play_X3_ringSize
theorem dX5_play_0 : decode cX5_play 0 = .ok (.aload_n 0, 1) := by decide +kernel
theorem dX5_play_1 : decode cX5_play 1 = .ok (.getfield 19, 3) := by decide +kernel
theorem dX5_play_4 : decode cX5_play 4 = .ok (.iload_n 1, 1) := by decide +kernel
theorem dX5_play_5 : decode cX5_play 5 = .ok (.invokevirtual 145, 3) := by decide +kernel
theorem dX5_play_8 : decode cX5_play 8 = .ok (.ifCond .ne 5, 3) := by decide +kernel
theorem dX5_play_11 : decode cX5_play 11 = .ok (.iconst (-1), 1) := by decide +kernel
theorem dX5_play_12 : decode cX5_play 12 = .ok (.ireturn, 1) := by decide +kernel
theorem dX5_play_13 : decode cX5_play 13 = .ok (.aload_n 0, 1) := by decide +kernel
theorem dX5_play_14 : decode cX5_play 14 = .ok (.getfield 35, 3) := by decide +kernel
theorem dX5_play_17 : decode cX5_play 17 = .ok (.aload_n 0, 1) := by decide +kernel
theorem dX5_play_18 : decode cX5_play 18 = .ok (.getfield 28, 3) := by decide +kernel
theorem dX5_play_21 : decode cX5_play 21 = .ok (.invokevirtual 154, 3) := by decide +kernel
theorem dX5_play_24 : decode cX5_play 24 = .ok (.aload_n 0, 1) := by decide +kernel
theorem dX5_play_25 : decode cX5_play 25 = .ok (.getfield 28, 3) := by decide +kernel
theorem dX5_play_28 : decode cX5_play 28 = .ok (.iload_n 1, 1) := by decide +kernel
theorem dX5_play_29 : decode cX5_play 29 = .ok (.invokevirtual 158, 3) := by decide +kernel
theorem dX5_play_32 : decode cX5_play 32 = .ok (.aload_n 0, 1) := by decide +kernel
theorem dX5_play_33 : decode cX5_play 33 = .ok (.getfield 28, 3) := by decide +kernel
theorem dX5_play_36 : decode cX5_play 36 = .ok (.invokevirtual 161, 3) := by decide +kernel
theorem dX5_play_39 : decode cX5_play 39 = .ok (.ireturn, 1) := by decide +kernel
set_option maxRecDepth 20000 in
theorem ggX5_round_X5_isSide : GoodIn wsX5_round wsX5_isSide := goodIn_r _ [6, 7, 8, 5, 9] (by decide +kernel) (by decide +kernel)
set_option maxRecDepth 20000 in
theorem gX5_round_X5_isSide : GoodIn wsX5_round (va_wsS RX5 164 yX5_isSide wsX5_isSide) := goodIn_app (goodIn_of _ (by decide +kernel)) ggX5_round_X5_isSide
set_option maxRecDepth 20000 in
theorem ggX5_round_X0_remember : GoodIn wsX5_round wsX0_remember := goodIn_r _ [14, 15, 16, 17, 18, 19, 20, 21, 22, 23, 24, 25, 26, 27, 28, 29, 30, 31, 32, 33, 34, 90, 91, 92, 93, 94, 95, 96, 97, 98, 99, 100, 101] (by decide +kernel) (by decide +kernel)
set_option maxRecDepth 20000 in
theorem gX5_round_X0_remember : GoodIn wsX5_round (wsV RX5 154 RX0 yX0_remember wsX0_remember) := goodIn_app (goodIn_of _ (by decide +kernel)) ggX5_round_X0_remember
set_option maxRecDepth 20000 in
theorem ggX5_round_X3_passHat : GoodIn wsX5_round wsX3_passHat := goodIn_r _ [38, 24, 23, 39, 40, 41, 21, 42, 26, 43, 25, 44, 45, 46, 47, 28, 48, 5, 49, 50, 51, 52, 53, 54, 55, 56, 57, 58, 59, 60, 61, 62, 63, 64, 65, 66, 67, 68, 69, 70, 71, 72, 73, 74, 75, 76, 93, 94, 95, 96, 97, 98, 99, 100, 101, 102, 103, 104, 105] (by decide +kernel) (by decide +kernel)
set_option maxRecDepth 20000 in
theorem gX5_round_X3_passHat : GoodIn wsX5_round (wsV RX5 167 RX3 yX3_passHat wsX3_passHat) := goodIn_app (goodIn_of _ (by decide +kernel)) ggX5_round_X3_passHat
theorem dX5_round_0 : decode cX5_round 0 = .ok (.iload_n 1, 1) := by decide +kernel
theorem dX5_round_1 : decode cX5_round 1 = .ok (.invokestatic 164, 3) := by decide +kernel
theorem dX5_round_4 : decode cX5_round 4 = .ok (.ifCond .ne 6, 3) := by decide +kernel
theorem dX5_round_7 : decode cX5_round 7 = .ok (.bipush (-2), 2) := by decide +kernel
theorem dX5_round_9 : decode cX5_round 9 = .ok (.ireturn, 1) := by decide +kernel
theorem dX5_round_10 : decode cX5_round 10 = .ok (.aload_n 0, 1) := by decide +kernel
theorem dX5_round_11 : decode cX5_round 11 = .ok (.getfield 35, 3) := by decide +kernel
theorem dX5_round_14 : decode cX5_round 14 = .ok (.aload_n 0, 1) := by decide +kernel
theorem dX5_round_15 : decode cX5_round 15 = .ok (.getfield 28, 3) := by decide +kernel
theorem dX5_round_18 : decode cX5_round 18 = .ok (.invokevirtual 154, 3) := by decide +kernel
theorem dX5_round_21 : decode cX5_round 21 = .ok (.aload_n 0, 1) := by decide +kernel
theorem dX5_round_22 : decode cX5_round 22 = .ok (.getfield 28, 3) := by decide +kernel
theorem dX5_round_25 : decode cX5_round 25 = .ok (.iload_n 1, 1) := by decide +kernel
theorem dX5_round_26 : decode cX5_round 26 = .ok (.invokevirtual 167, 3) := by decide +kernel
theorem dX5_round_29 : decode cX5_round 29 = .ok (.ireturn, 1) := by decide +kernel
set_option maxRecDepth 20000 in
theorem ggX5_bait_X5_isWithin : GoodIn wsX5_bait wsX5_isWithin := goodIn_r _ [6] (by decide +kernel) (by decide +kernel)
set_option maxRecDepth 20000 in
theorem gX5_bait_X5_isWithin : GoodIn wsX5_bait (va_wsS RX5 75 yX5_isWithin wsX5_isWithin) := goodIn_app (goodIn_of _ (by decide +kernel)) ggX5_bait_X5_isWithin
set_option maxRecDepth 20000 in
theorem ggX5_bait_X0_remember : GoodIn wsX5_bait wsX0_remember := goodIn_r _ [11, 12, 13, 14, 15, 16, 17, 18, 19, 20, 21, 22, 23, 24, 25, 26, 27, 28, 29, 30, 31, 54, 55, 56, 45, 46, 47, 48, 49, 50, 51, 52, 53] (by decide +kernel) (by decide +kernel)
set_option maxRecDepth 20000 in
theorem gX5_bait_X0_remember : GoodIn wsX5_bait (wsV RX5 154 RX0 yX0_remember wsX0_remember) := goodIn_app (goodIn_of _ (by decide +kernel)) ggX5_bait_X0_remember
theorem dX5_bait_0 : decode cX5_bait 0 = .ok (.iload_n 1, 1) := by decide +kernel
theorem dX5_bait_1 : decode cX5_bait 1 = .ok (.iconst 0, 1) := by decide +kernel
theorem dX5_bait_2 : decode cX5_bait 2 = .ok (.bipush 9, 2) := by decide +kernel
theorem dX5_bait_4 : decode cX5_bait 4 = .ok (.invokestatic 75, 3) := by decide +kernel
theorem dX5_bait_7 : decode cX5_bait 7 = .ok (.ifCond .ne 6, 3) := by decide +kernel
theorem dX5_bait_10 : decode cX5_bait 10 = .ok (.bipush (-2), 2) := by decide +kernel
theorem dX5_bait_12 : decode cX5_bait 12 = .ok (.ireturn, 1) := by decide +kernel
theorem dX5_bait_13 : decode cX5_bait 13 = .ok (.iload_n 1, 1) := by decide +kernel
theorem dX5_bait_14 : decode cX5_bait 14 = .ok (.aload_n 0, 1) := by decide +kernel
theorem dX5_bait_15 : decode cX5_bait 15 = .ok (.getfield 28, 3) := by decide +kernel
theorem dX5_bait_18 : decode cX5_bait 18 = .ok (.getfield 115, 3) := by decide +kernel
theorem dX5_bait_21 : decode cX5_bait 21 = .ok (.if_icmp .ne 6, 3) := by decide +kernel
theorem dX5_bait_24 : decode cX5_bait 24 = .ok (.bipush (-3), 2) := by decide +kernel
theorem dX5_bait_26 : decode cX5_bait 26 = .ok (.ireturn, 1) := by decide +kernel
theorem dX5_bait_27 : decode cX5_bait 27 = .ok (.aload_n 0, 1) := by decide +kernel
theorem dX5_bait_28 : decode cX5_bait 28 = .ok (.getfield 28, 3) := by decide +kernel
theorem dX5_bait_31 : decode cX5_bait 31 = .ok (.getfield 115, 3) := by decide +kernel
theorem dX5_bait_34 : decode cX5_bait 34 = .ok (.istore_n 2, 1) := by decide +kernel
theorem dX5_bait_35 : decode cX5_bait 35 = .ok (.aload_n 0, 1) := by decide +kernel
theorem dX5_bait_36 : decode cX5_bait 36 = .ok (.getfield 35, 3) := by decide +kernel
theorem dX5_bait_39 : decode cX5_bait 39 = .ok (.aload_n 0, 1) := by decide +kernel
theorem dX5_bait_40 : decode cX5_bait 40 = .ok (.getfield 28, 3) := by decide +kernel
theorem dX5_bait_43 : decode cX5_bait 43 = .ok (.invokevirtual 154, 3) := by decide +kernel
theorem dX5_bait_46 : decode cX5_bait 46 = .ok (.aload_n 0, 1) := by decide +kernel
theorem dX5_bait_47 : decode cX5_bait 47 = .ok (.getfield 28, 3) := by decide +kernel
theorem dX5_bait_50 : decode cX5_bait 50 = .ok (.iload_n 1, 1) := by decide +kernel
theorem dX5_bait_51 : decode cX5_bait 51 = .ok (.putfield 115, 3) := by decide +kernel
theorem dX5_bait_54 : decode cX5_bait 54 = .ok (.iload_n 2, 1) := by decide +kernel
theorem dX5_bait_55 : decode cX5_bait 55 = .ok (.ireturn, 1) := by decide +kernel
set_option maxRecDepth 20000 in
theorem ggX5_undo_X0_takeBackInto : GoodIn wsX5_undo wsX0_takeBackInto := goodIn_r _ [7, 8, 9, 10, 11, 12, 13, 14, 15, 16, 17, 18, 19, 20, 21, 22, 23, 24, 25, 26, 27, 41, 42, 43, 44, 45, 46, 47, 48, 49, 50, 51, 52] (by decide +kernel) (by decide +kernel)
set_option maxRecDepth 20000 in
theorem gX5_undo_X0_takeBackInto : GoodIn wsX5_undo (wsV RX5 170 RX0 yX0_takeBackInto wsX0_takeBackInto) := goodIn_app (goodIn_of _ (by decide +kernel)) ggX5_undo_X0_takeBackInto
theorem dX5_undo_0 : decode cX5_undo 0 = .ok (.aload_n 0, 1) := by decide +kernel
theorem dX5_undo_1 : decode cX5_undo 1 = .ok (.getfield 35, 3) := by decide +kernel
theorem dX5_undo_4 : decode cX5_undo 4 = .ok (.getfield 124, 3) := by decide +kernel
theorem dX5_undo_7 : decode cX5_undo 7 = .ok (.ifCond .ne 6, 3) := by decide +kernel
theorem dX5_undo_10 : decode cX5_undo 10 = .ok (.bipush (-3), 2) := by decide +kernel
theorem dX5_undo_12 : decode cX5_undo 12 = .ok (.ireturn, 1) := by decide +kernel
theorem dX5_undo_13 : decode cX5_undo 13 = .ok (.aload_n 0, 1) := by decide +kernel
theorem dX5_undo_14 : decode cX5_undo 14 = .ok (.getfield 35, 3) := by decide +kernel
theorem dX5_undo_17 : decode cX5_undo 17 = .ok (.aload_n 0, 1) := by decide +kernel
theorem dX5_undo_18 : decode cX5_undo 18 = .ok (.getfield 28, 3) := by decide +kernel
theorem dX5_undo_21 : decode cX5_undo 21 = .ok (.invokevirtual 170, 3) := by decide +kernel
theorem dX5_undo_24 : decode cX5_undo 24 = .ok (.aload_n 0, 1) := by decide +kernel
theorem dX5_undo_25 : decode cX5_undo 25 = .ok (.getfield 35, 3) := by decide +kernel
theorem dX5_undo_28 : decode cX5_undo 28 = .ok (.getfield 124, 3) := by decide +kernel
theorem dX5_undo_31 : decode cX5_undo 31 = .ok (.ireturn, 1) := by decide +kernel
set_option maxRecDepth 20000 in
theorem ggX5_would_X5_isSide : GoodIn wsX5_would wsX5_isSide := goodIn_r _ [6, 7, 8, 5, 9] (by decide +kernel) (by decide +kernel)
set_option maxRecDepth 20000 in
theorem gX5_would_X5_isSide : GoodIn wsX5_would (va_wsS RX5 164 yX5_isSide wsX5_isSide) := goodIn_app (goodIn_of _ (by decide +kernel)) ggX5_would_X5_isSide
set_option maxRecDepth 20000 in
theorem ggX5_would_X5_isWithin : GoodIn wsX5_would wsX5_isWithin := goodIn_r _ [9] (by decide +kernel) (by decide +kernel)
set_option maxRecDepth 20000 in
theorem gX5_would_X5_isWithin : GoodIn wsX5_would (va_wsS RX5 75 yX5_isWithin wsX5_isWithin) := goodIn_app (goodIn_of _ (by decide +kernel)) ggX5_would_X5_isWithin
set_option maxRecDepth 20000 in
theorem ggX5_would_X3_copy : GoodIn wsX5_would wsX3_copy := goodIn_r _ [14, 15, 16, 17, 18, 19, 20, 21, 22, 23, 24, 25, 26, 82, 83, 84, 85, 86, 87, 88, 89, 90] (by decide +kernel) (by decide +kernel)
set_option maxRecDepth 20000 in
theorem gX5_would_X3_copy : GoodIn wsX5_would (wsV RX5 173 RX3 yX3_copy wsX3_copy) := goodIn_app (goodIn_of _ (by decide +kernel)) ggX5_would_X3_copy
set_option maxRecDepth 20000 in
theorem ggX5_would_X3_passHat : GoodIn wsX5_would wsX3_passHat := goodIn_r _ [30, 16, 15, 31, 32, 33, 13, 34, 18, 35, 17, 36, 37, 38, 39, 20, 40, 5, 41, 42, 43, 44, 45, 46, 47, 48, 49, 50, 51, 52, 53, 54, 55, 56, 57, 58, 59, 60, 61, 62, 63, 64, 65, 66, 67, 68, 82, 83, 84, 85, 86, 87, 88, 89, 90, 91, 92, 93, 94] (by decide +kernel) (by decide +kernel)
set_option maxRecDepth 20000 in
theorem gX5_would_X3_passHat : GoodIn wsX5_would (wsV RX5 167 RX3 yX3_passHat wsX3_passHat) := goodIn_app (goodIn_of _ (by decide +kernel)) ggX5_would_X3_passHat
theorem dX5_would_0 : decode cX5_would 0 = .ok (.iload_n 1, 1) := by decide +kernel
theorem dX5_would_1 : decode cX5_would 1 = .ok (.invokestatic 164, 3) := by decide +kernel
theorem dX5_would_4 : decode cX5_would 4 = .ok (.ifCond .eq 12, 3) := by decide +kernel
theorem dX5_would_7 : decode cX5_would 7 = .ok (.iload_n 2, 1) := by decide +kernel
theorem dX5_would_8 : decode cX5_would 8 = .ok (.iconst 0, 1) := by decide +kernel
theorem dX5_would_9 : decode cX5_would 9 = .ok (.iconst 1, 1) := by decide +kernel
theorem dX5_would_10 : decode cX5_would 10 = .ok (.invokestatic 75, 3) := by decide +kernel
theorem dX5_would_13 : decode cX5_would 13 = .ok (.ifCond .ne 6, 3) := by decide +kernel
theorem dX5_would_16 : decode cX5_would 16 = .ok (.bipush (-2), 2) := by decide +kernel
theorem dX5_would_18 : decode cX5_would 18 = .ok (.ireturn, 1) := by decide +kernel
theorem dX5_would_19 : decode cX5_would 19 = .ok (.aload_n 0, 1) := by decide +kernel
theorem dX5_would_20 : decode cX5_would 20 = .ok (.getfield 62, 3) := by decide +kernel
theorem dX5_would_23 : decode cX5_would 23 = .ok (.aload_n 0, 1) := by decide +kernel
theorem dX5_would_24 : decode cX5_would 24 = .ok (.getfield 28, 3) := by decide +kernel
theorem dX5_would_27 : decode cX5_would 27 = .ok (.invokevirtual 173, 3) := by decide +kernel
theorem dX5_would_30 : decode cX5_would 30 = .ok (.aload_n 0, 1) := by decide +kernel
theorem dX5_would_31 : decode cX5_would 31 = .ok (.getfield 62, 3) := by decide +kernel
theorem dX5_would_34 : decode cX5_would 34 = .ok (.iload_n 1, 1) := by decide +kernel
theorem dX5_would_35 : decode cX5_would 35 = .ok (.invokevirtual 167, 3) := by decide +kernel
theorem dX5_would_38 : decode cX5_would 38 = .ok (.istore_n 3, 1) := by decide +kernel
theorem dX5_would_39 : decode cX5_would 39 = .ok (.iload_n 2, 1) := by decide +kernel
theorem dX5_would_40 : decode cX5_would 40 = .ok (.ifCond .ne 7, 3) := by decide +kernel
theorem dX5_would_43 : decode cX5_would 43 = .ok (.iload_n 3, 1) := by decide +kernel
theorem dX5_would_44 : decode cX5_would 44 = .ok (.goto 20, 3) := by decide +kernel
theorem dX5_would_47 : decode cX5_would 47 = .ok (.aload_n 0, 1) := by decide +kernel
theorem dX5_would_48 : decode cX5_would 48 = .ok (.getfield 28, 3) := by decide +kernel
theorem dX5_would_51 : decode cX5_would 51 = .ok (.getfield 118, 3) := by decide +kernel
theorem dX5_would_54 : decode cX5_would 54 = .ok (.aload_n 0, 1) := by decide +kernel
theorem dX5_would_55 : decode cX5_would 55 = .ok (.getfield 62, 3) := by decide +kernel
theorem dX5_would_58 : decode cX5_would 58 = .ok (.getfield 118, 3) := by decide +kernel
theorem dX5_would_61 : decode cX5_would 61 = .ok (.iconst (-1), 1) := by decide +kernel
theorem dX5_would_62 : decode cX5_would 62 = .ok (.ixor, 1) := by decide +kernel
theorem dX5_would_63 : decode cX5_would 63 = .ok (.iand, 1) := by decide +kernel
theorem dX5_would_64 : decode cX5_would 64 = .ok (.ireturn, 1) := by decide +kernel
set_option maxRecDepth 20000 in
theorem ggX5_plan_X5_isWithin : GoodIn wsX5_plan wsX5_isWithin := goodIn_r _ [6] (by decide +kernel) (by decide +kernel)
set_option maxRecDepth 20000 in
theorem gX5_plan_X5_isWithin : GoodIn wsX5_plan (va_wsS RX5 75 yX5_isWithin wsX5_isWithin) := goodIn_app (goodIn_of _ (by decide +kernel)) ggX5_plan_X5_isWithin
set_option maxRecDepth 20000 in
theorem ggX5_plan_X5_searchPlan : GoodIn wsX5_plan wsX5_searchPlan := goodIn_r _ [10, 2, 11, 12, 13, 14, 15, 16, 17, 18, 19, 20, 21, 5, 22, 23, 24, 25, 26, 1, 27, 28, 29, 30, 31, 32, 33, 34, 35, 4, 6, 36, 37, 38, 39, 40, 41, 42, 43, 44, 45, 46, 47, 48, 49, 50, 51, 52, 53, 54, 55, 56, 57, 58, 59, 60, 61, 62, 63, 64, 65, 66, 67, 68, 69, 70, 71, 72, 73, 74, 75, 76, 77, 78, 79, 80, 81, 82, 83, 84, 85, 86, 87, 88, 89, 90, 91, 92, 93, 94, 95, 96, 97, 98, 99, 100, 101, 102, 103, 104, 105, 106, 107, 108, 109, 110, 111, 112, 113, 114, 115, 116, 117, 118, 119, 120, 121, 122, 123, 124, 125, 126, 127, 128, 129, 130, 131, 132, 133, 134, 135, 136, 137, 138, 139, 140, 141, 142, 143, 148, 149, 144, 145, 146, 147, 150, 151, 152, 153, 154, 155, 156, 157, 158] (by decide +kernel) (by decide +kernel)
set_option maxRecDepth 20000 in
theorem gX5_plan_X5_searchPlan : GoodIn wsX5_plan (wsV RX5 176 RX5 yX5_searchPlan wsX5_searchPlan) := goodIn_app (goodIn_of _ (by decide +kernel)) ggX5_plan_X5_searchPlan
theorem dX5_plan_0 : decode cX5_plan 0 = .ok (.iload_n 1, 1) := by decide +kernel
theorem dX5_plan_1 : decode cX5_plan 1 = .ok (.iconst 0, 1) := by decide +kernel
theorem dX5_plan_2 : decode cX5_plan 2 = .ok (.iconst 3, 1) := by decide +kernel
theorem dX5_plan_3 : decode cX5_plan 3 = .ok (.invokestatic 75, 3) := by decide +kernel
theorem dX5_plan_6 : decode cX5_plan 6 = .ok (.ifCond .eq 12, 3) := by decide +kernel
theorem dX5_plan_9 : decode cX5_plan 9 = .ok (.iload_n 2, 1) := by decide +kernel
theorem dX5_plan_10 : decode cX5_plan 10 = .ok (.iconst 0, 1) := by decide +kernel
theorem dX5_plan_11 : decode cX5_plan 11 = .ok (.iconst 2, 1) := by decide +kernel
theorem dX5_plan_12 : decode cX5_plan 12 = .ok (.invokestatic 75, 3) := by decide +kernel
theorem dX5_plan_15 : decode cX5_plan 15 = .ok (.ifCond .ne 6, 3) := by decide +kernel
theorem dX5_plan_18 : decode cX5_plan 18 = .ok (.bipush (-2), 2) := by decide +kernel
theorem dX5_plan_20 : decode cX5_plan 20 = .ok (.ireturn, 1) := by decide +kernel
theorem dX5_plan_21 : decode cX5_plan 21 = .ok (.iload_n 1, 1) := by decide +kernel
theorem dX5_plan_22 : decode cX5_plan 22 = .ok (.ifCond .le 16, 3) := by decide +kernel
theorem dX5_plan_25 : decode cX5_plan 25 = .ok (.aload_n 0, 1) := by decide +kernel
theorem dX5_plan_26 : decode cX5_plan 26 = .ok (.getfield 19, 3) := by decide +kernel
theorem dX5_plan_29 : decode cX5_plan 29 = .ok (.getfield 106, 3) := by decide +kernel
theorem dX5_plan_32 : decode cX5_plan 32 = .ok (.ifCond .ne 6, 3) := by decide +kernel
theorem dX5_plan_35 : decode cX5_plan 35 = .ok (.bipush (-9), 2) := by decide +kernel
theorem dX5_plan_37 : decode cX5_plan 37 = .ok (.ireturn, 1) := by decide +kernel
theorem dX5_plan_38 : decode cX5_plan 38 = .ok (.aload_n 0, 1) := by decide +kernel
theorem dX5_plan_39 : decode cX5_plan 39 = .ok (.iload_n 1, 1) := by decide +kernel
theorem dX5_plan_40 : decode cX5_plan 40 = .ok (.invokevirtual 176, 3) := by decide +kernel
theorem dX5_plan_43 : decode cX5_plan 43 = .ok (.iload_n 2, 1) := by decide +kernel
theorem dX5_plan_44 : decode cX5_plan 44 = .ok (.ifCond .ne 11, 3) := by decide +kernel
theorem dX5_plan_47 : decode cX5_plan 47 = .ok (.aload_n 0, 1) := by decide +kernel
theorem dX5_plan_48 : decode cX5_plan 48 = .ok (.getfield 71, 3) := by decide +kernel
theorem dX5_plan_51 : decode cX5_plan 51 = .ok (.getfield 179, 3) := by decide +kernel
theorem dX5_plan_54 : decode cX5_plan 54 = .ok (.ireturn, 1) := by decide +kernel
theorem dX5_plan_55 : decode cX5_plan 55 = .ok (.iload_n 2, 1) := by decide +kernel
theorem dX5_plan_56 : decode cX5_plan 56 = .ok (.iconst 1, 1) := by decide +kernel
theorem dX5_plan_57 : decode cX5_plan 57 = .ok (.if_icmp .ne 15, 3) := by decide +kernel
theorem dX5_plan_60 : decode cX5_plan 60 = .ok (.aload_n 0, 1) := by decide +kernel
theorem dX5_plan_61 : decode cX5_plan 61 = .ok (.getfield 71, 3) := by decide +kernel
theorem dX5_plan_64 : decode cX5_plan 64 = .ok (.getfield 182, 3) := by decide +kernel
theorem dX5_plan_67 : decode cX5_plan 67 = .ok (.iconst 2, 1) := by decide +kernel
theorem dX5_plan_68 : decode cX5_plan 68 = .ok (.idiv, 1) := by decide +kernel
theorem dX5_plan_69 : decode cX5_plan 69 = .ok (.goto 12, 3) := by decide +kernel
theorem dX5_plan_72 : decode cX5_plan 72 = .ok (.aload_n 0, 1) := by decide +kernel
theorem dX5_plan_73 : decode cX5_plan 73 = .ok (.getfield 71, 3) := by decide +kernel
theorem dX5_plan_76 : decode cX5_plan 76 = .ok (.getfield 182, 3) := by decide +kernel
theorem dX5_plan_79 : decode cX5_plan 79 = .ok (.iconst 2, 1) := by decide +kernel
theorem dX5_plan_80 : decode cX5_plan 80 = .ok (.irem, 1) := by decide +kernel
theorem dX5_plan_81 : decode cX5_plan 81 = .ok (.ireturn, 1) := by decide +kernel
set_option maxRecDepth 20000 in
theorem ggX5_soon_X2_hasTune : GoodIn wsX5_soon wsX2_hasTune := goodIn_r _ [9, 10, 11, 12, 13, 128, 129, 130, 131] (by decide +kernel) (by decide +kernel)
set_option maxRecDepth 20000 in
theorem gX5_soon_X2_hasTune : GoodIn wsX5_soon (wsV RX5 145 RX2 yX2_hasTune wsX2_hasTune) := goodIn_app (goodIn_of _ (by decide +kernel)) ggX5_soon_X2_hasTune
set_option maxRecDepth 20000 in
theorem ggX5_soon_X1_clear : GoodIn wsX5_soon wsX1_clear := goodIn_r _ [18, 19, 20, 126, 127] (by decide +kernel) (by decide +kernel)
set_option maxRecDepth 20000 in
theorem gX5_soon_X1_clear : GoodIn wsX5_soon (wsV RX5 185 RX1 yX1_clear wsX1_clear) := goodIn_app (goodIn_of _ (by decide +kernel)) ggX5_soon_X1_clear
set_option maxRecDepth 20000 in
theorem ggX5_soon_X3_copy : GoodIn wsX5_soon wsX3_copy := goodIn_r _ [25, 26, 27, 28, 29, 30, 31, 32, 33, 34, 35, 36, 37, 132, 133, 134, 135, 136, 137, 138, 139, 140] (by decide +kernel) (by decide +kernel)
set_option maxRecDepth 20000 in
theorem gX5_soon_X3_copy : GoodIn wsX5_soon (wsV RX5 173 RX3 yX3_copy wsX3_copy) := goodIn_app (goodIn_of _ (by decide +kernel)) ggX5_soon_X3_copy
set_option maxRecDepth 20000 in
theorem ggX5_soon_X5_hatBehind : GoodIn wsX5_soon wsX5_hatBehind := goodIn_r _ [41, 42, 21, 22, 23, 24, 25, 26, 27, 28, 29, 30, 31, 32, 33, 34, 35, 36, 37, 43, 44, 45, 46, 47, 48, 49, 50, 51, 52, 53, 54, 55, 56, 12, 57, 58, 59, 60, 8, 61, 62, 63, 64, 65, 66, 67, 68, 69, 70, 71, 72, 73, 74, 75, 76, 77, 78, 79, 80, 81, 82, 83, 113, 114, 115, 116, 117, 118, 119, 120, 121, 122, 123, 124, 125, 132, 133, 134, 135, 136, 137, 138, 139, 140, 128, 129, 130, 131] (by decide +kernel) (by decide +kernel)
set_option maxRecDepth 20000 in
theorem gX5_soon_X5_hatBehind : GoodIn wsX5_soon (wsV RX5 186 RX5 yX5_hatBehind wsX5_hatBehind) := goodIn_app (goodIn_of _ (by decide +kernel)) ggX5_soon_X5_hatBehind
set_option maxRecDepth 20000 in
theorem ggX5_soon_X1_offer : GoodIn wsX5_soon wsX1_offer := goodIn_r _ [87, 19, 20, 126, 127] (by decide +kernel) (by decide +kernel)
set_option maxRecDepth 20000 in
theorem gX5_soon_X1_offer : GoodIn wsX5_soon (wsV RX5 190 RX1 yX1_offer wsX1_offer) := goodIn_app (goodIn_of _ (by decide +kernel)) ggX5_soon_X1_offer
set_option maxRecDepth 20000 in
theorem ggX5_soon_X3_hear : GoodIn wsX5_soon wsX3_hear := goodIn_r _ [91, 51, 37, 52, 53, 54, 55, 29, 36, 31, 70, 71, 72, 26, 92, 6, 7, 8, 9, 10, 11, 12, 13, 93, 94, 95, 96, 97, 63, 64, 65, 56, 57, 58, 59, 60, 61, 62, 98, 99, 100, 24, 101, 30, 102, 103, 104, 105, 106, 107, 108, 109, 110, 111, 112, 132, 133, 134, 135, 136, 137, 138, 139, 140, 128, 129, 130, 131] (by decide +kernel) (by decide +kernel)
set_option maxRecDepth 20000 in
theorem gX5_soon_X3_hear : GoodIn wsX5_soon (wsV RX5 158 RX3 yX3_hear wsX3_hear) := goodIn_app (goodIn_of _ (by decide +kernel)) ggX5_soon_X3_hear
theorem dX5_soon_0 : decode cX5_soon 0 = .ok (.aload_n 0, 1) := by decide +kernel
theorem dX5_soon_1 : decode cX5_soon 1 = .ok (.getfield 19, 3) := by decide +kernel
theorem dX5_soon_4 : decode cX5_soon 4 = .ok (.iload_n 1, 1) := by decide +kernel
theorem dX5_soon_5 : decode cX5_soon 5 = .ok (.invokevirtual 145, 3) := by decide +kernel
theorem dX5_soon_8 : decode cX5_soon 8 = .ok (.ifCond .ne 5, 3) := by decide +kernel
theorem dX5_soon_11 : decode cX5_soon 11 = .ok (.iconst (-1), 1) := by decide +kernel
theorem dX5_soon_12 : decode cX5_soon 12 = .ok (.ireturn, 1) := by decide +kernel
theorem dX5_soon_13 : decode cX5_soon 13 = .ok (.aload_n 0, 1) := by decide +kernel
theorem dX5_soon_14 : decode cX5_soon 14 = .ok (.getfield 71, 3) := by decide +kernel
theorem dX5_soon_17 : decode cX5_soon 17 = .ok (.invokevirtual 185, 3) := by decide +kernel
theorem dX5_soon_20 : decode cX5_soon 20 = .ok (.aload_n 0, 1) := by decide +kernel
theorem dX5_soon_21 : decode cX5_soon 21 = .ok (.getfield 62, 3) := by decide +kernel
theorem dX5_soon_24 : decode cX5_soon 24 = .ok (.aload_n 0, 1) := by decide +kernel
theorem dX5_soon_25 : decode cX5_soon 25 = .ok (.getfield 28, 3) := by decide +kernel
theorem dX5_soon_28 : decode cX5_soon 28 = .ok (.invokevirtual 173, 3) := by decide +kernel
theorem dX5_soon_31 : decode cX5_soon 31 = .ok (.iconst 0, 1) := by decide +kernel
theorem dX5_soon_32 : decode cX5_soon 32 = .ok (.istore_n 2, 1) := by decide +kernel
theorem dX5_soon_33 : decode cX5_soon 33 = .ok (.iload_n 2, 1) := by decide +kernel
theorem dX5_soon_34 : decode cX5_soon 34 = .ok (.bipush 9, 2) := by decide +kernel
theorem dX5_soon_36 : decode cX5_soon 36 = .ok (.if_icmp .gt 34, 3) := by decide +kernel
theorem dX5_soon_39 : decode cX5_soon 39 = .ok (.aload_n 0, 1) := by decide +kernel
theorem dX5_soon_40 : decode cX5_soon 40 = .ok (.getfield 71, 3) := by decide +kernel
theorem dX5_soon_43 : decode cX5_soon 43 = .ok (.aload_n 0, 1) := by decide +kernel
theorem dX5_soon_44 : decode cX5_soon 44 = .ok (.aload_n 0, 1) := by decide +kernel
theorem dX5_soon_45 : decode cX5_soon 45 = .ok (.getfield 62, 3) := by decide +kernel
theorem dX5_soon_48 : decode cX5_soon 48 = .ok (.iconst 0, 1) := by decide +kernel
theorem dX5_soon_49 : decode cX5_soon 49 = .ok (.invokevirtual 186, 3) := by decide +kernel
theorem dX5_soon_52 : decode cX5_soon 52 = .ok (.iload_n 2, 1) := by decide +kernel
theorem dX5_soon_53 : decode cX5_soon 53 = .ok (.invokevirtual 190, 3) := by decide +kernel
theorem dX5_soon_56 : decode cX5_soon 56 = .ok (.aload_n 0, 1) := by decide +kernel
theorem dX5_soon_57 : decode cX5_soon 57 = .ok (.getfield 62, 3) := by decide +kernel
theorem dX5_soon_60 : decode cX5_soon 60 = .ok (.iload_n 1, 1) := by decide +kernel
theorem dX5_soon_61 : decode cX5_soon 61 = .ok (.invokevirtual 158, 3) := by decide +kernel
theorem dX5_soon_64 : decode cX5_soon 64 = .ok (.iinc 2 1, 3) := by decide +kernel
theorem dX5_soon_67 : decode cX5_soon 67 = .ok (.goto (-34), 3) := by decide +kernel
theorem dX5_soon_70 : decode cX5_soon 70 = .ok (.aload_n 0, 1) := by decide +kernel
theorem dX5_soon_71 : decode cX5_soon 71 = .ok (.getfield 71, 3) := by decide +kernel
theorem dX5_soon_74 : decode cX5_soon 74 = .ok (.getfield 182, 3) := by decide +kernel
theorem dX5_soon_77 : decode cX5_soon 77 = .ok (.ireturn, 1) := by decide +kernel
set_option maxRecDepth 20000 in
theorem ggX5_grows_X5_isWithin : GoodIn wsX5_grows wsX5_isWithin := goodIn_r _ [6] (by decide +kernel) (by decide +kernel)
set_option maxRecDepth 20000 in
theorem gX5_grows_X5_isWithin : GoodIn wsX5_grows (va_wsS RX5 75 yX5_isWithin wsX5_isWithin) := goodIn_app (goodIn_of _ (by decide +kernel)) ggX5_grows_X5_isWithin
set_option maxRecDepth 20000 in
theorem ggX5_grows_X5_isRow : GoodIn wsX5_grows wsX5_isRow := goodIn_r _ [9, 10, 11, 5, 12] (by decide +kernel) (by decide +kernel)
set_option maxRecDepth 20000 in
theorem gX5_grows_X5_isRow : GoodIn wsX5_grows (va_wsS RX5 194 yX5_isRow wsX5_isRow) := goodIn_app (goodIn_of _ (by decide +kernel)) ggX5_grows_X5_isRow
set_option maxRecDepth 20000 in
theorem ggX5_grows_X5_areTunes : GoodIn wsX5_grows wsX5_areTunes := goodIn_r _ [16, 17, 18, 19, 5, 20, 21, 22, 23, 24, 25, 26, 4, 6, 91, 92, 93, 94, 95, 96, 97, 98, 99, 100, 101, 102, 103, 104, 105, 106, 107] (by decide +kernel) (by decide +kernel)
set_option maxRecDepth 20000 in
theorem gX5_grows_X5_areTunes : GoodIn wsX5_grows (wsV RX5 198 RX5 yX5_areTunes wsX5_areTunes) := goodIn_app (goodIn_of _ (by decide +kernel)) ggX5_grows_X5_areTunes
set_option maxRecDepth 20000 in
theorem ggX5_grows_X3_copy : GoodIn wsX5_grows wsX3_copy := goodIn_r _ [31, 32, 33, 34, 35, 36, 37, 38, 39, 40, 41, 42, 43, 108, 109, 110, 111, 112, 113, 114, 115, 116] (by decide +kernel) (by decide +kernel)
set_option maxRecDepth 20000 in
theorem gX5_grows_X3_copy : GoodIn wsX5_grows (wsV RX5 173 RX3 yX3_copy wsX3_copy) := goodIn_app (goodIn_of _ (by decide +kernel)) ggX5_grows_X3_copy
set_option maxRecDepth 20000 in
theorem ggX5_grows_X5_hearRow : GoodIn wsX5_grows wsX5_hearRow := goodIn_r _ [46, 18, 19, 5, 20, 47, 48, 49, 30, 50, 51, 43, 52, 53, 54, 55, 35, 42, 37, 56, 57, 58, 32, 59, 22, 23, 24, 25, 26, 4, 6, 60, 61, 62, 63, 64, 65, 66, 67, 68, 69, 70, 71, 72, 73, 74, 75, 76, 77, 78, 36, 79, 80, 81, 82, 83, 84, 85, 86, 87, 88, 89, 108, 109, 110, 111, 112, 113, 114, 115, 116, 104, 105, 106, 107] (by decide +kernel) (by decide +kernel)
set_option maxRecDepth 20000 in
theorem gX5_grows_X5_hearRow : GoodIn wsX5_grows (va_wsS RX5 201 yX5_hearRow wsX5_hearRow) := goodIn_app (goodIn_of _ (by decide +kernel)) ggX5_grows_X5_hearRow
set_option maxRecDepth 20000 in
theorem ggX5_grows_X3_ringSize : GoodIn wsX5_grows wsX3_ringSize := goodIn_r _ [82, 35, 83, 84, 85, 86, 87, 88, 89, 108, 109, 110, 111, 112, 113, 114, 115, 116] (by decide +kernel) (by decide +kernel)
set_option maxRecDepth 20000 in
theorem gX5_grows_X3_ringSize : GoodIn wsX5_grows (wsV RX5 161 RX3 yX3_ringSize wsX3_ringSize) := goodIn_app (goodIn_of _ (by decide +kernel)) ggX5_grows_X3_ringSize
theorem dX5_grows_0 : decode cX5_grows 0 = .ok (.iload_n 1, 1) := by decide +kernel
theorem dX5_grows_1 : decode cX5_grows 1 = .ok (.iconst 1, 1) := by decide +kernel
theorem dX5_grows_2 : decode cX5_grows 2 = .ok (.bipush 6, 2) := by decide +kernel
theorem dX5_grows_4 : decode cX5_grows 4 = .ok (.invokestatic 75, 3) := by decide +kernel
theorem dX5_grows_7 : decode cX5_grows 7 = .ok (.ifCond .eq 20, 3) := by decide +kernel
theorem dX5_grows_10 : decode cX5_grows 10 = .ok (.iload_n 1, 1) := by decide +kernel
theorem dX5_grows_11 : decode cX5_grows 11 = .ok (.iload_n 2, 1) := by decide +kernel
theorem dX5_grows_12 : decode cX5_grows 12 = .ok (.invokestatic 194, 3) := by decide +kernel
theorem dX5_grows_15 : decode cX5_grows 15 = .ok (.ifCond .eq 12, 3) := by decide +kernel
theorem dX5_grows_18 : decode cX5_grows 18 = .ok (.aload_n 0, 1) := by decide +kernel
theorem dX5_grows_19 : decode cX5_grows 19 = .ok (.iload_n 1, 1) := by decide +kernel
theorem dX5_grows_20 : decode cX5_grows 20 = .ok (.iload_n 2, 1) := by decide +kernel
theorem dX5_grows_21 : decode cX5_grows 21 = .ok (.invokevirtual 198, 3) := by decide +kernel
theorem dX5_grows_24 : decode cX5_grows 24 = .ok (.ifCond .ne 6, 3) := by decide +kernel
theorem dX5_grows_27 : decode cX5_grows 27 = .ok (.bipush (-2), 2) := by decide +kernel
theorem dX5_grows_29 : decode cX5_grows 29 = .ok (.ireturn, 1) := by decide +kernel
theorem dX5_grows_30 : decode cX5_grows 30 = .ok (.aload_n 0, 1) := by decide +kernel
theorem dX5_grows_31 : decode cX5_grows 31 = .ok (.getfield 62, 3) := by decide +kernel
theorem dX5_grows_34 : decode cX5_grows 34 = .ok (.aload_n 0, 1) := by decide +kernel
theorem dX5_grows_35 : decode cX5_grows 35 = .ok (.getfield 28, 3) := by decide +kernel
theorem dX5_grows_38 : decode cX5_grows 38 = .ok (.invokevirtual 173, 3) := by decide +kernel
theorem dX5_grows_41 : decode cX5_grows 41 = .ok (.aload_n 0, 1) := by decide +kernel
theorem dX5_grows_42 : decode cX5_grows 42 = .ok (.getfield 62, 3) := by decide +kernel
theorem dX5_grows_45 : decode cX5_grows 45 = .ok (.iload_n 1, 1) := by decide +kernel
theorem dX5_grows_46 : decode cX5_grows 46 = .ok (.iload_n 2, 1) := by decide +kernel
theorem dX5_grows_47 : decode cX5_grows 47 = .ok (.invokestatic 201, 3) := by decide +kernel
theorem dX5_grows_50 : decode cX5_grows 50 = .ok (.aload_n 0, 1) := by decide +kernel
theorem dX5_grows_51 : decode cX5_grows 51 = .ok (.getfield 62, 3) := by decide +kernel
theorem dX5_grows_54 : decode cX5_grows 54 = .ok (.invokevirtual 161, 3) := by decide +kernel
theorem dX5_grows_57 : decode cX5_grows 57 = .ok (.ireturn, 1) := by decide +kernel
set_option maxRecDepth 20000 in
theorem ggX5_bestBait_X5_isSide : GoodIn wsX5_bestBait wsX5_isSide := goodIn_r _ [7, 8, 9, 6, 10] (by decide +kernel) (by decide +kernel)
set_option maxRecDepth 20000 in
theorem gX5_bestBait_X5_isSide : GoodIn wsX5_bestBait (va_wsS RX5 164 yX5_isSide wsX5_isSide) := goodIn_app (goodIn_of _ (by decide +kernel)) ggX5_bestBait_X5_isSide
set_option maxRecDepth 20000 in
theorem ggX5_bestBait_X1_clear : GoodIn wsX5_bestBait wsX1_clear := goodIn_r _ [15, 16, 17, 108, 109] (by decide +kernel) (by decide +kernel)
set_option maxRecDepth 20000 in
theorem gX5_bestBait_X1_clear : GoodIn wsX5_bestBait (wsV RX5 185 RX1 yX1_clear wsX1_clear) := goodIn_app (goodIn_of _ (by decide +kernel)) ggX5_bestBait_X1_clear
set_option maxRecDepth 20000 in
theorem ggX5_bestBait_X3_copy : GoodIn wsX5_bestBait wsX3_copy := goodIn_r _ [22, 23, 24, 25, 26, 27, 28, 29, 30, 31, 32, 33, 34, 99, 100, 101, 102, 103, 104, 105, 106, 107] (by decide +kernel) (by decide +kernel)
set_option maxRecDepth 20000 in
theorem gX5_bestBait_X3_copy : GoodIn wsX5_bestBait (wsV RX5 173 RX3 yX3_copy wsX3_copy) := goodIn_app (goodIn_of _ (by decide +kernel)) ggX5_bestBait_X3_copy
set_option maxRecDepth 20000 in
theorem ggX5_bestBait_X5_hatBehind : GoodIn wsX5_bestBait wsX5_hatBehind := goodIn_r _ [38, 39, 18, 19, 20, 21, 22, 23, 24, 25, 26, 27, 28, 29, 30, 31, 32, 33, 34, 40, 41, 42, 43, 44, 45, 46, 47, 48, 49, 50, 51, 52, 53, 6, 54, 55, 56, 57, 58, 59, 60, 61, 62, 63, 64, 65, 66, 67, 68, 69, 70, 71, 72, 73, 74, 75, 76, 77, 78, 79, 80, 81, 86, 87, 88, 89, 90, 91, 92, 93, 94, 95, 96, 97, 98, 99, 100, 101, 102, 103, 104, 105, 106, 107, 110, 111, 112, 113] (by decide +kernel) (by decide +kernel)
set_option maxRecDepth 20000 in
theorem gX5_bestBait_X5_hatBehind : GoodIn wsX5_bestBait (wsV RX5 186 RX5 yX5_hatBehind wsX5_hatBehind) := goodIn_app (goodIn_of _ (by decide +kernel)) ggX5_bestBait_X5_hatBehind
set_option maxRecDepth 20000 in
theorem ggX5_bestBait_X1_offer : GoodIn wsX5_bestBait wsX1_offer := goodIn_r _ [85, 16, 17, 108, 109] (by decide +kernel) (by decide +kernel)
set_option maxRecDepth 20000 in
theorem gX5_bestBait_X1_offer : GoodIn wsX5_bestBait (wsV RX5 190 RX1 yX1_offer wsX1_offer) := goodIn_app (goodIn_of _ (by decide +kernel)) ggX5_bestBait_X1_offer
theorem dX5_bestBait_0 : decode cX5_bestBait 0 = .ok (.iload_n 1, 1) := by decide +kernel
theorem dX5_bestBait_1 : decode cX5_bestBait 1 = .ok (.invokestatic 164, 3) := by decide +kernel
theorem dX5_bestBait_4 : decode cX5_bestBait 4 = .ok (.ifCond .ne 6, 3) := by decide +kernel
theorem dX5_bestBait_7 : decode cX5_bestBait 7 = .ok (.bipush (-2), 2) := by decide +kernel
theorem dX5_bestBait_9 : decode cX5_bestBait 9 = .ok (.ireturn, 1) := by decide +kernel
theorem dX5_bestBait_10 : decode cX5_bestBait 10 = .ok (.aload_n 0, 1) := by decide +kernel
theorem dX5_bestBait_11 : decode cX5_bestBait 11 = .ok (.getfield 71, 3) := by decide +kernel
theorem dX5_bestBait_14 : decode cX5_bestBait 14 = .ok (.invokevirtual 185, 3) := by decide +kernel
theorem dX5_bestBait_17 : decode cX5_bestBait 17 = .ok (.aload_n 0, 1) := by decide +kernel
theorem dX5_bestBait_18 : decode cX5_bestBait 18 = .ok (.getfield 62, 3) := by decide +kernel
theorem dX5_bestBait_21 : decode cX5_bestBait 21 = .ok (.aload_n 0, 1) := by decide +kernel
theorem dX5_bestBait_22 : decode cX5_bestBait 22 = .ok (.getfield 28, 3) := by decide +kernel
theorem dX5_bestBait_25 : decode cX5_bestBait 25 = .ok (.invokevirtual 173, 3) := by decide +kernel
theorem dX5_bestBait_28 : decode cX5_bestBait 28 = .ok (.iconst 0, 1) := by decide +kernel
theorem dX5_bestBait_29 : decode cX5_bestBait 29 = .ok (.istore_n 2, 1) := by decide +kernel
theorem dX5_bestBait_30 : decode cX5_bestBait 30 = .ok (.iload_n 2, 1) := by decide +kernel
theorem dX5_bestBait_31 : decode cX5_bestBait 31 = .ok (.bipush 9, 2) := by decide +kernel
theorem dX5_bestBait_33 : decode cX5_bestBait 33 = .ok (.if_icmp .gt 34, 3) := by decide +kernel
theorem dX5_bestBait_36 : decode cX5_bestBait 36 = .ok (.aload_n 0, 1) := by decide +kernel
theorem dX5_bestBait_37 : decode cX5_bestBait 37 = .ok (.getfield 62, 3) := by decide +kernel
theorem dX5_bestBait_40 : decode cX5_bestBait 40 = .ok (.iload_n 2, 1) := by decide +kernel
theorem dX5_bestBait_41 : decode cX5_bestBait 41 = .ok (.putfield 115, 3) := by decide +kernel
theorem dX5_bestBait_44 : decode cX5_bestBait 44 = .ok (.aload_n 0, 1) := by decide +kernel
theorem dX5_bestBait_45 : decode cX5_bestBait 45 = .ok (.getfield 71, 3) := by decide +kernel
theorem dX5_bestBait_48 : decode cX5_bestBait 48 = .ok (.aload_n 0, 1) := by decide +kernel
theorem dX5_bestBait_49 : decode cX5_bestBait 49 = .ok (.aload_n 0, 1) := by decide +kernel
theorem dX5_bestBait_50 : decode cX5_bestBait 50 = .ok (.getfield 62, 3) := by decide +kernel
theorem dX5_bestBait_53 : decode cX5_bestBait 53 = .ok (.iload_n 1, 1) := by decide +kernel
theorem dX5_bestBait_54 : decode cX5_bestBait 54 = .ok (.invokevirtual 186, 3) := by decide +kernel
theorem dX5_bestBait_57 : decode cX5_bestBait 57 = .ok (.iload_n 2, 1) := by decide +kernel
theorem dX5_bestBait_58 : decode cX5_bestBait 58 = .ok (.invokevirtual 190, 3) := by decide +kernel
theorem dX5_bestBait_61 : decode cX5_bestBait 61 = .ok (.iinc 2 1, 3) := by decide +kernel
theorem dX5_bestBait_64 : decode cX5_bestBait 64 = .ok (.goto (-34), 3) := by decide +kernel
theorem dX5_bestBait_67 : decode cX5_bestBait 67 = .ok (.aload_n 0, 1) := by decide +kernel
theorem dX5_bestBait_68 : decode cX5_bestBait 68 = .ok (.getfield 71, 3) := by decide +kernel
theorem dX5_bestBait_71 : decode cX5_bestBait 71 = .ok (.getfield 182, 3) := by decide +kernel
theorem dX5_bestBait_74 : decode cX5_bestBait 74 = .ok (.ireturn, 1) := by decide +kernel
set_option maxRecDepth 20000 in
theorem ggX5_judged_X5_isWithin : GoodIn wsX5_judged wsX5_isWithin := goodIn_r _ [6] (by decide +kernel) (by decide +kernel)
set_option maxRecDepth 20000 in
theorem gX5_judged_X5_isWithin : GoodIn wsX5_judged (va_wsS RX5 75 yX5_isWithin wsX5_isWithin) := goodIn_app (goodIn_of _ (by decide +kernel)) ggX5_judged_X5_isWithin
set_option maxRecDepth 20000 in
theorem ggX5_judged_X5_isRow : GoodIn wsX5_judged wsX5_isRow := goodIn_r _ [9, 10, 11, 5, 12] (by decide +kernel) (by decide +kernel)
set_option maxRecDepth 20000 in
theorem gX5_judged_X5_isRow : GoodIn wsX5_judged (va_wsS RX5 194 yX5_isRow wsX5_isRow) := goodIn_app (goodIn_of _ (by decide +kernel)) ggX5_judged_X5_isRow
set_option maxRecDepth 20000 in
theorem ggX5_judged_X3_copy : GoodIn wsX5_judged wsX3_copy := goodIn_r _ [17, 18, 19, 20, 21, 22, 23, 24, 25, 26, 27, 28, 29, 126, 127, 128, 129, 130, 131, 132, 133, 134] (by decide +kernel) (by decide +kernel)
set_option maxRecDepth 20000 in
theorem gX5_judged_X3_copy : GoodIn wsX5_judged (wsV RX5 173 RX3 yX3_copy wsX3_copy) := goodIn_app (goodIn_of _ (by decide +kernel)) ggX5_judged_X3_copy
set_option maxRecDepth 20000 in
theorem ggX5_judged_X5_figureAt : GoodIn wsX5_judged wsX5_figureAt := goodIn_r _ [32] (by decide +kernel) (by decide +kernel)
set_option maxRecDepth 20000 in
theorem gX5_judged_X5_figureAt : GoodIn wsX5_judged (va_wsS RX5 205 yX5_figureAt wsX5_figureAt) := goodIn_app (goodIn_of _ (by decide +kernel)) ggX5_judged_X5_figureAt
set_option maxRecDepth 20000 in
theorem ggX5_judged_X5_enact : GoodIn wsX5_judged wsX5_enact := goodIn_r _ [36, 37, 38, 39, 40, 41, 42, 43, 4, 5, 6, 44, 45, 46, 16, 47, 48, 29, 49, 50, 51, 52, 21, 28, 23, 53, 54, 55, 18, 56, 57, 58, 59, 60, 61, 62, 63, 64, 65, 66, 67, 68, 69, 70, 71, 72, 73, 74, 75, 22, 76, 77, 78, 79, 80, 81, 82, 83, 84, 85, 86, 87, 88, 89, 3, 90, 91, 92, 93, 19, 94, 95, 96, 97, 20, 98, 99, 100, 101, 102, 103, 104, 105, 106, 107, 108, 109, 110, 111, 112, 113, 114, 115, 116, 117, 118, 119, 120, 121, 122, 123, 124, 125, 135, 136, 137, 138, 126, 127, 128, 129, 130, 131, 132, 133, 134] (by decide +kernel) (by decide +kernel)
set_option maxRecDepth 20000 in
theorem gX5_judged_X5_enact : GoodIn wsX5_judged (wsV RX5 209 RX5 yX5_enact wsX5_enact) := goodIn_app (goodIn_of _ (by decide +kernel)) ggX5_judged_X5_enact
theorem dX5_judged_0 : decode cX5_judged 0 = .ok (.iload_n 1, 1) := by decide +kernel
theorem dX5_judged_1 : decode cX5_judged 1 = .ok (.iconst 1, 1) := by decide +kernel
theorem dX5_judged_2 : decode cX5_judged 2 = .ok (.bipush 8, 2) := by decide +kernel
theorem dX5_judged_4 : decode cX5_judged 4 = .ok (.invokestatic 75, 3) := by decide +kernel
theorem dX5_judged_7 : decode cX5_judged 7 = .ok (.ifCond .eq 11, 3) := by decide +kernel
theorem dX5_judged_10 : decode cX5_judged 10 = .ok (.iload_n 1, 1) := by decide +kernel
theorem dX5_judged_11 : decode cX5_judged 11 = .ok (.iload_n 2, 1) := by decide +kernel
theorem dX5_judged_12 : decode cX5_judged 12 = .ok (.invokestatic 194, 3) := by decide +kernel
theorem dX5_judged_15 : decode cX5_judged 15 = .ok (.ifCond .ne 6, 3) := by decide +kernel
theorem dX5_judged_18 : decode cX5_judged 18 = .ok (.bipush (-2), 2) := by decide +kernel
theorem dX5_judged_20 : decode cX5_judged 20 = .ok (.ireturn, 1) := by decide +kernel
theorem dX5_judged_21 : decode cX5_judged 21 = .ok (.aload_n 0, 1) := by decide +kernel
theorem dX5_judged_22 : decode cX5_judged 22 = .ok (.getfield 62, 3) := by decide +kernel
theorem dX5_judged_25 : decode cX5_judged 25 = .ok (.aload_n 0, 1) := by decide +kernel
theorem dX5_judged_26 : decode cX5_judged 26 = .ok (.getfield 28, 3) := by decide +kernel
theorem dX5_judged_29 : decode cX5_judged 29 = .ok (.invokevirtual 173, 3) := by decide +kernel
theorem dX5_judged_32 : decode cX5_judged 32 = .ok (.iconst 0, 1) := by decide +kernel
theorem dX5_judged_33 : decode cX5_judged 33 = .ok (.istore_n 3, 1) := by decide +kernel
theorem dX5_judged_34 : decode cX5_judged 34 = .ok (.iload_n 3, 1) := by decide +kernel
theorem dX5_judged_35 : decode cX5_judged 35 = .ok (.iload_n 1, 1) := by decide +kernel
theorem dX5_judged_36 : decode cX5_judged 36 = .ok (.if_icmp .ge 38, 3) := by decide +kernel
theorem dX5_judged_39 : decode cX5_judged 39 = .ok (.aload_n 0, 1) := by decide +kernel
theorem dX5_judged_40 : decode cX5_judged 40 = .ok (.aload_n 0, 1) := by decide +kernel
theorem dX5_judged_41 : decode cX5_judged 41 = .ok (.getfield 62, 3) := by decide +kernel
theorem dX5_judged_44 : decode cX5_judged 44 = .ok (.iload_n 1, 1) := by decide +kernel
theorem dX5_judged_45 : decode cX5_judged 45 = .ok (.iload_n 2, 1) := by decide +kernel
theorem dX5_judged_46 : decode cX5_judged 46 = .ok (.iload_n 3, 1) := by decide +kernel
theorem dX5_judged_47 : decode cX5_judged 47 = .ok (.invokestatic 205, 3) := by decide +kernel
theorem dX5_judged_50 : decode cX5_judged 50 = .ok (.invokevirtual 209, 3) := by decide +kernel
theorem dX5_judged_53 : decode cX5_judged 53 = .ok (.ifCond .eq 13, 3) := by decide +kernel
theorem dX5_judged_56 : decode cX5_judged 56 = .ok (.aload_n 0, 1) := by decide +kernel
theorem dX5_judged_57 : decode cX5_judged 57 = .ok (.getfield 62, 3) := by decide +kernel
theorem dX5_judged_60 : decode cX5_judged 60 = .ok (.getfield 118, 3) := by decide +kernel
theorem dX5_judged_63 : decode cX5_judged 63 = .ok (.ifCond .ne 5, 3) := by decide +kernel
theorem dX5_judged_66 : decode cX5_judged 66 = .ok (.iload_n 3, 1) := by decide +kernel
theorem dX5_judged_67 : decode cX5_judged 67 = .ok (.ireturn, 1) := by decide +kernel
theorem dX5_judged_68 : decode cX5_judged 68 = .ok (.iinc 3 1, 3) := by decide +kernel
theorem dX5_judged_71 : decode cX5_judged 71 = .ok (.goto (-37), 3) := by decide +kernel
theorem dX5_judged_74 : decode cX5_judged 74 = .ok (.bipush (-9), 2) := by decide +kernel
theorem dX5_judged_76 : decode cX5_judged 76 = .ok (.ireturn, 1) := by decide +kernel
set_option maxRecDepth 20000 in
theorem ggX5_never_X3_copy : GoodIn wsX5_never wsX3_copy := goodIn_r _ [7, 8, 9, 10, 11, 12, 13, 14, 15, 16, 17, 18, 19, 61, 62, 63, 64, 65, 66, 67, 68, 69] (by decide +kernel) (by decide +kernel)
set_option maxRecDepth 20000 in
theorem gX5_never_X3_copy : GoodIn wsX5_never (wsV RX5 173 RX3 yX3_copy wsX3_copy) := goodIn_app (goodIn_of _ (by decide +kernel)) ggX5_never_X3_copy
set_option maxRecDepth 20000 in
theorem ggX5_never_X3_letCome : GoodIn wsX5_never wsX3_letCome := goodIn_r _ [23, 12, 24, 11, 25, 26, 27, 28, 29, 30, 6, 31, 32, 33, 34, 35, 36, 37, 38, 39, 40, 41, 42, 43, 44, 45, 46, 47, 61, 62, 63, 64, 65, 66, 67, 68, 69, 70, 71, 72, 73] (by decide +kernel) (by decide +kernel)
set_option maxRecDepth 20000 in
theorem gX5_never_X3_letCome : GoodIn wsX5_never (wsV RX5 213 RX3 yX3_letCome wsX3_letCome) := goodIn_app (goodIn_of _ (by decide +kernel)) ggX5_never_X3_letCome
theorem dX5_never_0 : decode cX5_never 0 = .ok (.aload_n 0, 1) := by decide +kernel
theorem dX5_never_1 : decode cX5_never 1 = .ok (.getfield 62, 3) := by decide +kernel
theorem dX5_never_4 : decode cX5_never 4 = .ok (.aload_n 0, 1) := by decide +kernel
theorem dX5_never_5 : decode cX5_never 5 = .ok (.getfield 28, 3) := by decide +kernel
theorem dX5_never_8 : decode cX5_never 8 = .ok (.invokevirtual 173, 3) := by decide +kernel
theorem dX5_never_11 : decode cX5_never 11 = .ok (.iconst 0, 1) := by decide +kernel
theorem dX5_never_12 : decode cX5_never 12 = .ok (.istore_n 1, 1) := by decide +kernel
theorem dX5_never_13 : decode cX5_never 13 = .ok (.iload_n 1, 1) := by decide +kernel
theorem dX5_never_14 : decode cX5_never 14 = .ok (.bipush 6, 2) := by decide +kernel
theorem dX5_never_16 : decode cX5_never 16 = .ok (.if_icmp .ge 16, 3) := by decide +kernel
theorem dX5_never_19 : decode cX5_never 19 = .ok (.aload_n 0, 1) := by decide +kernel
theorem dX5_never_20 : decode cX5_never 20 = .ok (.getfield 62, 3) := by decide +kernel
theorem dX5_never_23 : decode cX5_never 23 = .ok (.invokevirtual 213, 3) := by decide +kernel
theorem dX5_never_26 : decode cX5_never 26 = .ok (.iinc 1 1, 3) := by decide +kernel
theorem dX5_never_29 : decode cX5_never 29 = .ok (.goto (-16), 3) := by decide +kernel
theorem dX5_never_32 : decode cX5_never 32 = .ok (.aload_n 0, 1) := by decide +kernel
theorem dX5_never_33 : decode cX5_never 33 = .ok (.getfield 62, 3) := by decide +kernel
theorem dX5_never_36 : decode cX5_never 36 = .ok (.getfield 121, 3) := by decide +kernel
theorem dX5_never_39 : decode cX5_never 39 = .ok (.ireturn, 1) := by decide +kernel
set_option maxRecDepth 20000 in
theorem ggX5_louder_X5_isWithin : GoodIn wsX5_louder wsX5_isWithin := goodIn_r _ [4] (by decide +kernel) (by decide +kernel)
set_option maxRecDepth 20000 in
theorem gX5_louder_X5_isWithin : GoodIn wsX5_louder (va_wsS RX5 75 yX5_isWithin wsX5_isWithin) := goodIn_app (goodIn_of _ (by decide +kernel)) ggX5_louder_X5_isWithin
set_option maxRecDepth 20000 in
theorem ggX5_louder_X5_isContent : GoodIn wsX5_louder wsX5_isContent := goodIn_r _ [7, 8, 9, 3, 10] (by decide +kernel) (by decide +kernel)
set_option maxRecDepth 20000 in
theorem gX5_louder_X5_isContent : GoodIn wsX5_louder (va_wsS RX5 216 yX5_isContent wsX5_isContent) := goodIn_app (goodIn_of _ (by decide +kernel)) ggX5_louder_X5_isContent
theorem dX5_louder_0 : decode cX5_louder 0 = .ok (.iload_n 1, 1) := by decide +kernel
theorem dX5_louder_1 : decode cX5_louder 1 = .ok (.iconst 1, 1) := by decide +kernel
theorem dX5_louder_2 : decode cX5_louder 2 = .ok (.bipush 20, 2) := by decide +kernel
theorem dX5_louder_4 : decode cX5_louder 4 = .ok (.invokestatic 75, 3) := by decide +kernel
theorem dX5_louder_7 : decode cX5_louder 7 = .ok (.ifCond .eq 12, 3) := by decide +kernel
theorem dX5_louder_10 : decode cX5_louder 10 = .ok (.iload_n 2, 1) := by decide +kernel
theorem dX5_louder_11 : decode cX5_louder 11 = .ok (.iconst 0, 1) := by decide +kernel
theorem dX5_louder_12 : decode cX5_louder 12 = .ok (.iconst 1, 1) := by decide +kernel
theorem dX5_louder_13 : decode cX5_louder 13 = .ok (.invokestatic 75, 3) := by decide +kernel
theorem dX5_louder_16 : decode cX5_louder 16 = .ok (.ifCond .ne 6, 3) := by decide +kernel
theorem dX5_louder_19 : decode cX5_louder 19 = .ok (.bipush (-2), 2) := by decide +kernel
theorem dX5_louder_21 : decode cX5_louder 21 = .ok (.ireturn, 1) := by decide +kernel
theorem dX5_louder_22 : decode cX5_louder 22 = .ok (.iconst 0, 1) := by decide +kernel
theorem dX5_louder_23 : decode cX5_louder 23 = .ok (.istore_n 3, 1) := by decide +kernel
theorem dX5_louder_24 : decode cX5_louder 24 = .ok (.bipush (-9), 2) := by decide +kernel
theorem dX5_louder_26 : decode cX5_louder 26 = .ok (.istore 4, 2) := by decide +kernel
theorem dX5_louder_28 : decode cX5_louder 28 = .ok (.iconst 0, 1) := by decide +kernel
theorem dX5_louder_29 : decode cX5_louder 29 = .ok (.istore 5, 2) := by decide +kernel
theorem dX5_louder_31 : decode cX5_louder 31 = .ok (.iload 5, 2) := by decide +kernel
theorem dX5_louder_33 : decode cX5_louder 33 = .ok (.iconst 5, 1) := by decide +kernel
theorem dX5_louder_34 : decode cX5_louder 34 = .ok (.if_icmp .gt 68, 3) := by decide +kernel
theorem dX5_louder_37 : decode cX5_louder 37 = .ok (.iconst 0, 1) := by decide +kernel
theorem dX5_louder_38 : decode cX5_louder 38 = .ok (.istore 6, 2) := by decide +kernel
theorem dX5_louder_40 : decode cX5_louder 40 = .ok (.iload 6, 2) := by decide +kernel
theorem dX5_louder_42 : decode cX5_louder 42 = .ok (.iconst 5, 1) := by decide +kernel
theorem dX5_louder_43 : decode cX5_louder 43 = .ok (.if_icmp .gt 53, 3) := by decide +kernel
theorem dX5_louder_46 : decode cX5_louder 46 = .ok (.iload_n 1, 1) := by decide +kernel
theorem dX5_louder_47 : decode cX5_louder 47 = .ok (.iload 5, 2) := by decide +kernel
theorem dX5_louder_49 : decode cX5_louder 49 = .ok (.iload 6, 2) := by decide +kernel
theorem dX5_louder_51 : decode cX5_louder 51 = .ok (.invokestatic 216, 3) := by decide +kernel
theorem dX5_louder_54 : decode cX5_louder 54 = .ok (.ifCond .eq 36, 3) := by decide +kernel
theorem dX5_louder_57 : decode cX5_louder 57 = .ok (.iload_n 1, 1) := by decide +kernel
theorem dX5_louder_58 : decode cX5_louder 58 = .ok (.iload 6, 2) := by decide +kernel
theorem dX5_louder_60 : decode cX5_louder 60 = .ok (.iload 5, 2) := by decide +kernel
theorem dX5_louder_62 : decode cX5_louder 62 = .ok (.invokestatic 216, 3) := by decide +kernel
theorem dX5_louder_65 : decode cX5_louder 65 = .ok (.ifCond .eq 25, 3) := by decide +kernel
theorem dX5_louder_68 : decode cX5_louder 68 = .ok (.iload_n 3, 1) := by decide +kernel
theorem dX5_louder_69 : decode cX5_louder 69 = .ok (.ifCond .ne 14, 3) := by decide +kernel
theorem dX5_louder_72 : decode cX5_louder 72 = .ok (.bipush 10, 2) := by decide +kernel
theorem dX5_louder_74 : decode cX5_louder 74 = .ok (.iload 5, 2) := by decide +kernel
theorem dX5_louder_76 : decode cX5_louder 76 = .ok (.imul, 1) := by decide +kernel
theorem dX5_louder_77 : decode cX5_louder 77 = .ok (.iload 6, 2) := by decide +kernel
theorem dX5_louder_79 : decode cX5_louder 79 = .ok (.iadd, 1) := by decide +kernel
theorem dX5_louder_80 : decode cX5_louder 80 = .ok (.goto 5, 3) := by decide +kernel
theorem dX5_louder_83 : decode cX5_louder 83 = .ok (.iload 4, 2) := by decide +kernel
theorem dX5_louder_85 : decode cX5_louder 85 = .ok (.istore 4, 2) := by decide +kernel
theorem dX5_louder_87 : decode cX5_louder 87 = .ok (.iinc 3 1, 3) := by decide +kernel
theorem dX5_louder_90 : decode cX5_louder 90 = .ok (.iinc 6 1, 3) := by decide +kernel
theorem dX5_louder_93 : decode cX5_louder 93 = .ok (.goto (-53), 3) := by decide +kernel
theorem dX5_louder_96 : decode cX5_louder 96 = .ok (.iinc 5 1, 3) := by decide +kernel
theorem dX5_louder_99 : decode cX5_louder 99 = .ok (.goto (-68), 3) := by decide +kernel
theorem dX5_louder_102 : decode cX5_louder 102 = .ok (.iload_n 2, 1) := by decide +kernel
theorem dX5_louder_103 : decode cX5_louder 103 = .ok (.ifCond .ne 7, 3) := by decide +kernel
theorem dX5_louder_106 : decode cX5_louder 106 = .ok (.iload_n 3, 1) := by decide +kernel
theorem dX5_louder_107 : decode cX5_louder 107 = .ok (.goto 5, 3) := by decide +kernel
theorem dX5_louder_110 : decode cX5_louder 110 = .ok (.iload 4, 2) := by decide +kernel
theorem dX5_louder_112 : decode cX5_louder 112 = .ok (.ireturn, 1) := by decide +kernel
set_option maxRecDepth 20000 in
theorem ggX5_shares_X5_isCoins : GoodIn wsX5_shares wsX5_isCoins := goodIn_r _ [4, 5, 6, 3, 7] (by decide +kernel) (by decide +kernel)
set_option maxRecDepth 20000 in
theorem gX5_shares_X5_isCoins : GoodIn wsX5_shares (va_wsS RX5 219 yX5_isCoins wsX5_isCoins) := goodIn_app (goodIn_of _ (by decide +kernel)) ggX5_shares_X5_isCoins
theorem dX5_shares_0 : decode cX5_shares 0 = .ok (.iload_n 1, 1) := by decide +kernel
theorem dX5_shares_1 : decode cX5_shares 1 = .ok (.invokestatic 219, 3) := by decide +kernel
theorem dX5_shares_4 : decode cX5_shares 4 = .ok (.ifCond .eq 17, 3) := by decide +kernel
theorem dX5_shares_7 : decode cX5_shares 7 = .ok (.iload_n 2, 1) := by decide +kernel
theorem dX5_shares_8 : decode cX5_shares 8 = .ok (.invokestatic 219, 3) := by decide +kernel
theorem dX5_shares_11 : decode cX5_shares 11 = .ok (.ifCond .eq 10, 3) := by decide +kernel
theorem dX5_shares_14 : decode cX5_shares 14 = .ok (.iload_n 3, 1) := by decide +kernel
theorem dX5_shares_15 : decode cX5_shares 15 = .ok (.invokestatic 219, 3) := by decide +kernel
theorem dX5_shares_18 : decode cX5_shares 18 = .ok (.ifCond .ne 6, 3) := by decide +kernel
theorem dX5_shares_21 : decode cX5_shares 21 = .ok (.bipush (-2), 2) := by decide +kernel
theorem dX5_shares_23 : decode cX5_shares 23 = .ok (.ireturn, 1) := by decide +kernel
theorem dX5_shares_24 : decode cX5_shares 24 = .ok (.iconst 0, 1) := by decide +kernel
theorem dX5_shares_25 : decode cX5_shares 25 = .ok (.istore 4, 2) := by decide +kernel
theorem dX5_shares_27 : decode cX5_shares 27 = .ok (.iload 4, 2) := by decide +kernel
theorem dX5_shares_29 : decode cX5_shares 29 = .ok (.bipush 10, 2) := by decide +kernel
theorem dX5_shares_31 : decode cX5_shares 31 = .ok (.if_icmp .gt 33, 3) := by decide +kernel
theorem dX5_shares_34 : decode cX5_shares 34 = .ok (.iload_n 1, 1) := by decide +kernel
theorem dX5_shares_35 : decode cX5_shares 35 = .ok (.iload 4, 2) := by decide +kernel
theorem dX5_shares_37 : decode cX5_shares 37 = .ok (.imul, 1) := by decide +kernel
theorem dX5_shares_38 : decode cX5_shares 38 = .ok (.bipush 10, 2) := by decide +kernel
theorem dX5_shares_40 : decode cX5_shares 40 = .ok (.idiv, 1) := by decide +kernel
theorem dX5_shares_41 : decode cX5_shares 41 = .ok (.istore 5, 2) := by decide +kernel
theorem dX5_shares_43 : decode cX5_shares 43 = .ok (.iload 5, 2) := by decide +kernel
theorem dX5_shares_45 : decode cX5_shares 45 = .ok (.iload_n 2, 1) := by decide +kernel
theorem dX5_shares_46 : decode cX5_shares 46 = .ok (.if_icmp .lt 12, 3) := by decide +kernel
theorem dX5_shares_49 : decode cX5_shares 49 = .ok (.iload 5, 2) := by decide +kernel
theorem dX5_shares_51 : decode cX5_shares 51 = .ok (.iload_n 3, 1) := by decide +kernel
theorem dX5_shares_52 : decode cX5_shares 52 = .ok (.if_icmp .lt 6, 3) := by decide +kernel
theorem dX5_shares_55 : decode cX5_shares 55 = .ok (.iload 4, 2) := by decide +kernel
theorem dX5_shares_57 : decode cX5_shares 57 = .ok (.ireturn, 1) := by decide +kernel
theorem dX5_shares_58 : decode cX5_shares 58 = .ok (.iinc 4 1, 3) := by decide +kernel
theorem dX5_shares_61 : decode cX5_shares 61 = .ok (.goto (-34), 3) := by decide +kernel
theorem dX5_shares_64 : decode cX5_shares 64 = .ok (.bipush (-9), 2) := by decide +kernel
theorem dX5_shares_66 : decode cX5_shares 66 = .ok (.ireturn, 1) := by decide +kernel
set_option maxRecDepth 20000 in
theorem ggX5_gave_X5_isCoins : GoodIn wsX5_gave wsX5_isCoins := goodIn_r _ [5, 6, 7, 4, 8] (by decide +kernel) (by decide +kernel)
set_option maxRecDepth 20000 in
theorem gX5_gave_X5_isCoins : GoodIn wsX5_gave (va_wsS RX5 219 yX5_isCoins wsX5_isCoins) := goodIn_app (goodIn_of _ (by decide +kernel)) ggX5_gave_X5_isCoins
set_option maxRecDepth 20000 in
theorem ggX5_gave_X5_isWithin : GoodIn wsX5_gave wsX5_isWithin := goodIn_r _ [8] (by decide +kernel) (by decide +kernel)
set_option maxRecDepth 20000 in
theorem gX5_gave_X5_isWithin : GoodIn wsX5_gave (va_wsS RX5 75 yX5_isWithin wsX5_isWithin) := goodIn_app (goodIn_of _ (by decide +kernel)) ggX5_gave_X5_isWithin
set_option maxRecDepth 20000 in
theorem ggX5_gave_X3_areStanding : GoodIn wsX5_gave wsX3_areStanding := goodIn_r _ [13, 14, 63, 64, 65, 66, 67, 68, 69, 70, 71] (by decide +kernel) (by decide +kernel)
set_option maxRecDepth 20000 in
theorem gX5_gave_X3_areStanding : GoodIn wsX5_gave (wsV RX5 222 RX3 yX3_areStanding wsX3_areStanding) := goodIn_app (goodIn_of _ (by decide +kernel)) ggX5_gave_X3_areStanding
set_option maxRecDepth 20000 in
theorem ggX5_gave_X5_isAsSeen : GoodIn wsX5_gave wsX5_isAsSeen := goodIn_r _ [18, 19, 20, 21, 22, 23, 24, 25, 26, 27, 28, 7, 4, 8, 29, 30, 31, 50, 51, 52, 53, 54, 55, 56, 57, 58, 59, 60, 61, 62, 72, 73, 74, 75] (by decide +kernel) (by decide +kernel)
set_option maxRecDepth 20000 in
theorem gX5_gave_X5_isAsSeen : GoodIn wsX5_gave (wsV RX5 225 RX5 yX5_isAsSeen wsX5_isAsSeen) := goodIn_app (goodIn_of _ (by decide +kernel)) ggX5_gave_X5_isAsSeen
set_option maxRecDepth 20000 in
theorem ggX5_gave_X3_giftsOf : GoodIn wsX5_gave wsX3_giftsOf := goodIn_r _ [35, 30, 4, 31, 36, 37, 38, 12, 39, 40, 41, 42, 43, 44, 45, 46, 47, 48, 49, 63, 64, 65, 66, 67, 68, 69, 70, 71] (by decide +kernel) (by decide +kernel)
set_option maxRecDepth 20000 in
theorem gX5_gave_X3_giftsOf : GoodIn wsX5_gave (wsV RX5 228 RX3 yX3_giftsOf wsX3_giftsOf) := goodIn_app (goodIn_of _ (by decide +kernel)) ggX5_gave_X3_giftsOf
theorem dX5_gave_0 : decode cX5_gave 0 = .ok (.iload_n 1, 1) := by decide +kernel
theorem dX5_gave_1 : decode cX5_gave 1 = .ok (.invokestatic 219, 3) := by decide +kernel
theorem dX5_gave_4 : decode cX5_gave 4 = .ok (.ifCond .eq 12, 3) := by decide +kernel
theorem dX5_gave_7 : decode cX5_gave 7 = .ok (.iload_n 2, 1) := by decide +kernel
theorem dX5_gave_8 : decode cX5_gave 8 = .ok (.iconst 0, 1) := by decide +kernel
theorem dX5_gave_9 : decode cX5_gave 9 = .ok (.iconst 1, 1) := by decide +kernel
theorem dX5_gave_10 : decode cX5_gave 10 = .ok (.invokestatic 75, 3) := by decide +kernel
theorem dX5_gave_13 : decode cX5_gave 13 = .ok (.ifCond .ne 6, 3) := by decide +kernel
theorem dX5_gave_16 : decode cX5_gave 16 = .ok (.bipush (-2), 2) := by decide +kernel
theorem dX5_gave_18 : decode cX5_gave 18 = .ok (.ireturn, 1) := by decide +kernel
theorem dX5_gave_19 : decode cX5_gave 19 = .ok (.iconst 0, 1) := by decide +kernel
theorem dX5_gave_20 : decode cX5_gave 20 = .ok (.istore_n 3, 1) := by decide +kernel
theorem dX5_gave_21 : decode cX5_gave 21 = .ok (.aload_n 0, 1) := by decide +kernel
theorem dX5_gave_22 : decode cX5_gave 22 = .ok (.getfield 28, 3) := by decide +kernel
theorem dX5_gave_25 : decode cX5_gave 25 = .ok (.getfield 118, 3) := by decide +kernel
theorem dX5_gave_28 : decode cX5_gave 28 = .ok (.istore 4, 2) := by decide +kernel
theorem dX5_gave_30 : decode cX5_gave 30 = .ok (.iconst 0, 1) := by decide +kernel
theorem dX5_gave_31 : decode cX5_gave 31 = .ok (.istore 5, 2) := by decide +kernel
theorem dX5_gave_33 : decode cX5_gave 33 = .ok (.iload 5, 2) := by decide +kernel
theorem dX5_gave_35 : decode cX5_gave 35 = .ok (.bipush 64, 2) := by decide +kernel
theorem dX5_gave_37 : decode cX5_gave 37 = .ok (.if_icmp .ge 53, 3) := by decide +kernel
theorem dX5_gave_40 : decode cX5_gave 40 = .ok (.aload_n 0, 1) := by decide +kernel
theorem dX5_gave_41 : decode cX5_gave 41 = .ok (.getfield 28, 3) := by decide +kernel
theorem dX5_gave_44 : decode cX5_gave 44 = .ok (.iload 5, 2) := by decide +kernel
theorem dX5_gave_46 : decode cX5_gave 46 = .ok (.invokevirtual 222, 3) := by decide +kernel
theorem dX5_gave_49 : decode cX5_gave 49 = .ok (.ifCond .eq 35, 3) := by decide +kernel
theorem dX5_gave_52 : decode cX5_gave 52 = .ok (.aload_n 0, 1) := by decide +kernel
theorem dX5_gave_53 : decode cX5_gave 53 = .ok (.iload 5, 2) := by decide +kernel
theorem dX5_gave_55 : decode cX5_gave 55 = .ok (.invokevirtual 225, 3) := by decide +kernel
theorem dX5_gave_58 : decode cX5_gave 58 = .ok (.ifCond .eq 26, 3) := by decide +kernel
theorem dX5_gave_61 : decode cX5_gave 61 = .ok (.aload_n 0, 1) := by decide +kernel
theorem dX5_gave_62 : decode cX5_gave 62 = .ok (.getfield 28, 3) := by decide +kernel
theorem dX5_gave_65 : decode cX5_gave 65 = .ok (.iload 5, 2) := by decide +kernel
theorem dX5_gave_67 : decode cX5_gave 67 = .ok (.invokevirtual 228, 3) := by decide +kernel
theorem dX5_gave_70 : decode cX5_gave 70 = .ok (.iload_n 1, 1) := by decide +kernel
theorem dX5_gave_71 : decode cX5_gave 71 = .ok (.if_icmp .ne 13, 3) := by decide +kernel
theorem dX5_gave_74 : decode cX5_gave 74 = .ok (.iinc 3 1, 3) := by decide +kernel
theorem dX5_gave_77 : decode cX5_gave 77 = .ok (.iload 4, 2) := by decide +kernel
theorem dX5_gave_79 : decode cX5_gave 79 = .ok (.iload 5, 2) := by decide +kernel
theorem dX5_gave_81 : decode cX5_gave 81 = .ok (.iand, 1) := by decide +kernel
theorem dX5_gave_82 : decode cX5_gave 82 = .ok (.istore 4, 2) := by decide +kernel
theorem dX5_gave_84 : decode cX5_gave 84 = .ok (.iinc 5 1, 3) := by decide +kernel
theorem dX5_gave_87 : decode cX5_gave 87 = .ok (.goto (-54), 3) := by decide +kernel
theorem dX5_gave_90 : decode cX5_gave 90 = .ok (.iload_n 2, 1) := by decide +kernel
theorem dX5_gave_91 : decode cX5_gave 91 = .ok (.ifCond .ne 5, 3) := by decide +kernel
theorem dX5_gave_94 : decode cX5_gave 94 = .ok (.iload_n 3, 1) := by decide +kernel
theorem dX5_gave_95 : decode cX5_gave 95 = .ok (.ireturn, 1) := by decide +kernel
theorem dX5_gave_96 : decode cX5_gave 96 = .ok (.iload_n 3, 1) := by decide +kernel
theorem dX5_gave_97 : decode cX5_gave 97 = .ok (.ifCond .ne 8, 3) := by decide +kernel
theorem dX5_gave_100 : decode cX5_gave 100 = .ok (.bipush (-9), 2) := by decide +kernel
theorem dX5_gave_102 : decode cX5_gave 102 = .ok (.goto 5, 3) := by decide +kernel
theorem dX5_gave_105 : decode cX5_gave 105 = .ok (.iload 4, 2) := by decide +kernel
theorem dX5_gave_107 : decode cX5_gave 107 = .ok (.ireturn, 1) := by decide +kernel
set_option maxRecDepth 20000 in
theorem ggX5_see_X2_hasPerson : GoodIn wsX5_see wsX2_hasPerson := goodIn_r _ [9, 10, 11, 12, 13, 27, 28, 29, 30] (by decide +kernel) (by decide +kernel)
set_option maxRecDepth 20000 in
theorem gX5_see_X2_hasPerson : GoodIn wsX5_see (wsV RX5 127 RX2 yX2_hasPerson wsX2_hasPerson) := goodIn_app (goodIn_of _ (by decide +kernel)) ggX5_see_X2_hasPerson
theorem dX5_see_0 : decode cX5_see 0 = .ok (.aload_n 0, 1) := by decide +kernel
theorem dX5_see_1 : decode cX5_see 1 = .ok (.getfield 19, 3) := by decide +kernel
theorem dX5_see_4 : decode cX5_see 4 = .ok (.iload_n 1, 1) := by decide +kernel
theorem dX5_see_5 : decode cX5_see 5 = .ok (.invokevirtual 127, 3) := by decide +kernel
theorem dX5_see_8 : decode cX5_see 8 = .ok (.ifCond .ne 5, 3) := by decide +kernel
theorem dX5_see_11 : decode cX5_see 11 = .ok (.iconst (-1), 1) := by decide +kernel
theorem dX5_see_12 : decode cX5_see 12 = .ok (.ireturn, 1) := by decide +kernel
theorem dX5_see_13 : decode cX5_see 13 = .ok (.aload_n 0, 1) := by decide +kernel
theorem dX5_see_14 : decode cX5_see 14 = .ok (.getfield 54, 3) := by decide +kernel
theorem dX5_see_17 : decode cX5_see 17 = .ok (.bipush 6, 2) := by decide +kernel
theorem dX5_see_19 : decode cX5_see 19 = .ok (.if_icmp .lt 6, 3) := by decide +kernel
theorem dX5_see_22 : decode cX5_see 22 = .ok (.bipush (-4), 2) := by decide +kernel
theorem dX5_see_24 : decode cX5_see 24 = .ok (.ireturn, 1) := by decide +kernel
theorem dX5_see_25 : decode cX5_see 25 = .ok (.aload_n 0, 1) := by decide +kernel
theorem dX5_see_26 : decode cX5_see 26 = .ok (.getfield 47, 3) := by decide +kernel
theorem dX5_see_29 : decode cX5_see 29 = .ok (.aload_n 0, 1) := by decide +kernel
theorem dX5_see_30 : decode cX5_see 30 = .ok (.getfield 54, 3) := by decide +kernel
theorem dX5_see_33 : decode cX5_see 33 = .ok (.iload_n 1, 1) := by decide +kernel
theorem dX5_see_34 : decode cX5_see 34 = .ok (.iastore, 1) := by decide +kernel
theorem dX5_see_35 : decode cX5_see 35 = .ok (.aload_n 0, 1) := by decide +kernel
theorem dX5_see_36 : decode cX5_see 36 = .ok (.getfield 51, 3) := by decide +kernel
theorem dX5_see_39 : decode cX5_see 39 = .ok (.aload_n 0, 1) := by decide +kernel
theorem dX5_see_40 : decode cX5_see 40 = .ok (.getfield 54, 3) := by decide +kernel
theorem dX5_see_43 : decode cX5_see 43 = .ok (.iload_n 2, 1) := by decide +kernel
theorem dX5_see_44 : decode cX5_see 44 = .ok (.bastore, 1) := by decide +kernel
theorem dX5_see_45 : decode cX5_see 45 = .ok (.aload_n 0, 1) := by decide +kernel
theorem dX5_see_46 : decode cX5_see 46 = .ok (.dup, 1) := by decide +kernel
theorem dX5_see_47 : decode cX5_see 47 = .ok (.getfield 54, 3) := by decide +kernel
theorem dX5_see_50 : decode cX5_see 50 = .ok (.iconst 1, 1) := by decide +kernel
theorem dX5_see_51 : decode cX5_see 51 = .ok (.iadd, 1) := by decide +kernel
theorem dX5_see_52 : decode cX5_see 52 = .ok (.putfield 54, 3) := by decide +kernel
theorem dX5_see_55 : decode cX5_see 55 = .ok (.aload_n 0, 1) := by decide +kernel
theorem dX5_see_56 : decode cX5_see 56 = .ok (.getfield 54, 3) := by decide +kernel
theorem dX5_see_59 : decode cX5_see 59 = .ok (.ireturn, 1) := by decide +kernel
theorem dX5_unsee_0 : decode cX5_unsee 0 = .ok (.aload_n 0, 1) := by decide +kernel
theorem dX5_unsee_1 : decode cX5_unsee 1 = .ok (.getfield 54, 3) := by decide +kernel
theorem dX5_unsee_4 : decode cX5_unsee 4 = .ok (.istore_n 1, 1) := by decide +kernel
theorem dX5_unsee_5 : decode cX5_unsee 5 = .ok (.aload_n 0, 1) := by decide +kernel
theorem dX5_unsee_6 : decode cX5_unsee 6 = .ok (.iconst 0, 1) := by decide +kernel
theorem dX5_unsee_7 : decode cX5_unsee 7 = .ok (.putfield 54, 3) := by decide +kernel
theorem dX5_unsee_10 : decode cX5_unsee 10 = .ok (.iload_n 1, 1) := by decide +kernel
theorem dX5_unsee_11 : decode cX5_unsee 11 = .ok (.ireturn, 1) := by decide +kernel
set_option maxRecDepth 20000 in
theorem ggX5_luck_X5_isWithin : GoodIn wsX5_luck wsX5_isWithin := goodIn_r _ [5] (by decide +kernel) (by decide +kernel)
set_option maxRecDepth 20000 in
theorem gX5_luck_X5_isWithin : GoodIn wsX5_luck (va_wsS RX5 75 yX5_isWithin wsX5_isWithin) := goodIn_app (goodIn_of _ (by decide +kernel)) ggX5_luck_X5_isWithin
set_option maxRecDepth 20000 in
theorem ggX5_luck_X5_isCoins : GoodIn wsX5_luck wsX5_isCoins := goodIn_r _ [8, 2, 3, 4, 5] (by decide +kernel) (by decide +kernel)
set_option maxRecDepth 20000 in
theorem gX5_luck_X5_isCoins : GoodIn wsX5_luck (va_wsS RX5 219 yX5_isCoins wsX5_isCoins) := goodIn_app (goodIn_of _ (by decide +kernel)) ggX5_luck_X5_isCoins
set_option maxRecDepth 20000 in
theorem ggX5_luck_X3_areStanding : GoodIn wsX5_luck wsX3_areStanding := goodIn_r _ [13, 14, 70, 71, 72, 73, 74, 75, 76, 77, 78] (by decide +kernel) (by decide +kernel)
set_option maxRecDepth 20000 in
theorem gX5_luck_X3_areStanding : GoodIn wsX5_luck (wsV RX5 222 RX3 yX3_areStanding wsX3_areStanding) := goodIn_app (goodIn_of _ (by decide +kernel)) ggX5_luck_X3_areStanding
set_option maxRecDepth 20000 in
theorem ggX5_luck_X3_giftsOf : GoodIn wsX5_luck wsX3_giftsOf := goodIn_r _ [18, 19, 4, 20, 21, 22, 23, 12, 24, 25, 26, 27, 28, 29, 30, 31, 32, 33, 34, 70, 71, 72, 73, 74, 75, 76, 77, 78] (by decide +kernel) (by decide +kernel)
set_option maxRecDepth 20000 in
theorem gX5_luck_X3_giftsOf : GoodIn wsX5_luck (wsV RX5 228 RX3 yX3_giftsOf wsX3_giftsOf) := goodIn_app (goodIn_of _ (by decide +kernel)) ggX5_luck_X3_giftsOf
set_option maxRecDepth 20000 in
theorem ggX5_luck_J6_bitCount_0f7a4 : GoodIn wsX5_luck wsJ6_bitCount_0f7a4 := goodIn_r _ [38, 39, 40, 41] (by decide +kernel) (by decide +kernel)
set_option maxRecDepth 20000 in
theorem gX5_luck_J6_bitCount_0f7a4 : GoodIn wsX5_luck (va_wsS RX5 231 yJ6_bitCount_0f7a4 wsJ6_bitCount_0f7a4) := goodIn_app (goodIn_of _ (by decide +kernel)) ggX5_luck_J6_bitCount_0f7a4
set_option maxRecDepth 20000 in
theorem ggX5_luck_X5_waysToStay : GoodIn wsX5_luck wsX5_waysToStay := goodIn_r _ [45, 1, 46, 47, 4, 48, 49, 50, 51, 12, 52, 14, 53, 36, 37, 38, 39, 40, 41, 57, 58, 59, 60, 61, 62, 63, 64, 65, 66, 67, 68, 69, 70, 71, 72, 73, 74, 75, 76, 77, 78] (by decide +kernel) (by decide +kernel)
set_option maxRecDepth 20000 in
theorem gX5_luck_X5_waysToStay : GoodIn wsX5_luck (wsV RX5 236 RX5 yX5_waysToStay wsX5_waysToStay) := goodIn_app (goodIn_of _ (by decide +kernel)) ggX5_luck_X5_waysToStay
set_option maxRecDepth 20000 in
theorem ggX5_luck_X3_ringSize : GoodIn wsX5_luck wsX3_ringSize := goodIn_r _ [52, 14, 53, 36, 37, 38, 39, 40, 41, 70, 71, 72, 73, 74, 75, 76, 77, 78] (by decide +kernel) (by decide +kernel)
set_option maxRecDepth 20000 in
theorem gX5_luck_X3_ringSize : GoodIn wsX5_luck (wsV RX5 161 RX3 yX3_ringSize wsX3_ringSize) := goodIn_app (goodIn_of _ (by decide +kernel)) ggX5_luck_X3_ringSize
set_option maxRecDepth 20000 in
theorem ggX5_luck_X5_power : GoodIn wsX5_luck wsX5_power := goodIn_r _ [48] (by decide +kernel) (by decide +kernel)
set_option maxRecDepth 20000 in
theorem gX5_luck_X5_power : GoodIn wsX5_luck (va_wsS RX5 239 yX5_power wsX5_power) := goodIn_app (goodIn_of _ (by decide +kernel)) ggX5_luck_X5_power
set_option maxRecDepth 20000 in
theorem ggX5_luck_X5_commonDivisor : GoodIn wsX5_luck wsX5_commonDivisor := goodIn_r _ [56] (by decide +kernel) (by decide +kernel)
set_option maxRecDepth 20000 in
theorem gX5_luck_X5_commonDivisor : GoodIn wsX5_luck (va_wsS RX5 242 yX5_commonDivisor wsX5_commonDivisor) := goodIn_app (goodIn_of _ (by decide +kernel)) ggX5_luck_X5_commonDivisor
theorem dX5_luck_0 : decode cX5_luck 0 = .ok (.iload_n 1, 1) := by decide +kernel
theorem dX5_luck_1 : decode cX5_luck 1 = .ok (.iconst 0, 1) := by decide +kernel
theorem dX5_luck_2 : decode cX5_luck 2 = .ok (.bipush 10, 2) := by decide +kernel
theorem dX5_luck_4 : decode cX5_luck 4 = .ok (.invokestatic 75, 3) := by decide +kernel
theorem dX5_luck_7 : decode cX5_luck 7 = .ok (.ifCond .eq 10, 3) := by decide +kernel
theorem dX5_luck_10 : decode cX5_luck 10 = .ok (.iload_n 2, 1) := by decide +kernel
theorem dX5_luck_11 : decode cX5_luck 11 = .ok (.invokestatic 219, 3) := by decide +kernel
theorem dX5_luck_14 : decode cX5_luck 14 = .ok (.ifCond .ne 6, 3) := by decide +kernel
theorem dX5_luck_17 : decode cX5_luck 17 = .ok (.bipush (-2), 2) := by decide +kernel
theorem dX5_luck_19 : decode cX5_luck 19 = .ok (.ireturn, 1) := by decide +kernel
theorem dX5_luck_20 : decode cX5_luck 20 = .ok (.iconst 0, 1) := by decide +kernel
theorem dX5_luck_21 : decode cX5_luck 21 = .ok (.istore 4, 2) := by decide +kernel
theorem dX5_luck_23 : decode cX5_luck 23 = .ok (.iconst 0, 1) := by decide +kernel
theorem dX5_luck_24 : decode cX5_luck 24 = .ok (.istore 5, 2) := by decide +kernel
theorem dX5_luck_26 : decode cX5_luck 26 = .ok (.iload 5, 2) := by decide +kernel
theorem dX5_luck_28 : decode cX5_luck 28 = .ok (.bipush 64, 2) := by decide +kernel
theorem dX5_luck_30 : decode cX5_luck 30 = .ok (.if_icmp .ge 49, 3) := by decide +kernel
theorem dX5_luck_33 : decode cX5_luck 33 = .ok (.aload_n 0, 1) := by decide +kernel
theorem dX5_luck_34 : decode cX5_luck 34 = .ok (.getfield 28, 3) := by decide +kernel
theorem dX5_luck_37 : decode cX5_luck 37 = .ok (.iload 5, 2) := by decide +kernel
theorem dX5_luck_39 : decode cX5_luck 39 = .ok (.invokevirtual 222, 3) := by decide +kernel
theorem dX5_luck_42 : decode cX5_luck 42 = .ok (.ifCond .eq 31, 3) := by decide +kernel
theorem dX5_luck_45 : decode cX5_luck 45 = .ok (.aload_n 0, 1) := by decide +kernel
theorem dX5_luck_46 : decode cX5_luck 46 = .ok (.getfield 28, 3) := by decide +kernel
theorem dX5_luck_49 : decode cX5_luck 49 = .ok (.iload 5, 2) := by decide +kernel
theorem dX5_luck_51 : decode cX5_luck 51 = .ok (.invokevirtual 228, 3) := by decide +kernel
theorem dX5_luck_54 : decode cX5_luck 54 = .ok (.iload_n 2, 1) := by decide +kernel
theorem dX5_luck_55 : decode cX5_luck 55 = .ok (.if_icmp .lt 18, 3) := by decide +kernel
theorem dX5_luck_58 : decode cX5_luck 58 = .ok (.iload 4, 2) := by decide +kernel
theorem dX5_luck_60 : decode cX5_luck 60 = .ok (.aload_n 0, 1) := by decide +kernel
theorem dX5_luck_61 : decode cX5_luck 61 = .ok (.iload_n 1, 1) := by decide +kernel
theorem dX5_luck_62 : decode cX5_luck 62 = .ok (.iload 5, 2) := by decide +kernel
theorem dX5_luck_64 : decode cX5_luck 64 = .ok (.invokestatic 231, 3) := by decide +kernel
theorem dX5_luck_67 : decode cX5_luck 67 = .ok (.invokevirtual 236, 3) := by decide +kernel
theorem dX5_luck_70 : decode cX5_luck 70 = .ok (.iadd, 1) := by decide +kernel
theorem dX5_luck_71 : decode cX5_luck 71 = .ok (.istore 4, 2) := by decide +kernel
theorem dX5_luck_73 : decode cX5_luck 73 = .ok (.iinc 5 1, 3) := by decide +kernel
theorem dX5_luck_76 : decode cX5_luck 76 = .ok (.goto (-50), 3) := by decide +kernel
theorem dX5_luck_79 : decode cX5_luck 79 = .ok (.bipush 10, 2) := by decide +kernel
theorem dX5_luck_81 : decode cX5_luck 81 = .ok (.aload_n 0, 1) := by decide +kernel
theorem dX5_luck_82 : decode cX5_luck 82 = .ok (.getfield 28, 3) := by decide +kernel
theorem dX5_luck_85 : decode cX5_luck 85 = .ok (.invokevirtual 161, 3) := by decide +kernel
theorem dX5_luck_88 : decode cX5_luck 88 = .ok (.invokestatic 239, 3) := by decide +kernel
theorem dX5_luck_91 : decode cX5_luck 91 = .ok (.istore 5, 2) := by decide +kernel
theorem dX5_luck_93 : decode cX5_luck 93 = .ok (.iload 4, 2) := by decide +kernel
theorem dX5_luck_95 : decode cX5_luck 95 = .ok (.iload 5, 2) := by decide +kernel
theorem dX5_luck_97 : decode cX5_luck 97 = .ok (.invokestatic 242, 3) := by decide +kernel
theorem dX5_luck_100 : decode cX5_luck 100 = .ok (.istore 6, 2) := by decide +kernel
theorem dX5_luck_102 : decode cX5_luck 102 = .ok (.iload 6, 2) := by decide +kernel
theorem dX5_luck_104 : decode cX5_luck 104 = .ok (.ifCond .ne 5, 3) := by decide +kernel
theorem dX5_luck_107 : decode cX5_luck 107 = .ok (.iconst 0, 1) := by decide +kernel
theorem dX5_luck_108 : decode cX5_luck 108 = .ok (.ireturn, 1) := by decide +kernel
theorem dX5_luck_109 : decode cX5_luck 109 = .ok (.iload_n 3, 1) := by decide +kernel
theorem dX5_luck_110 : decode cX5_luck 110 = .ok (.ifCond .eq 11, 3) := by decide +kernel
theorem dX5_luck_113 : decode cX5_luck 113 = .ok (.iload 4, 2) := by decide +kernel
theorem dX5_luck_115 : decode cX5_luck 115 = .ok (.iload 6, 2) := by decide +kernel
theorem dX5_luck_117 : decode cX5_luck 117 = .ok (.idiv, 1) := by decide +kernel
theorem dX5_luck_118 : decode cX5_luck 118 = .ok (.goto 8, 3) := by decide +kernel
theorem dX5_luck_121 : decode cX5_luck 121 = .ok (.iload 5, 2) := by decide +kernel
theorem dX5_luck_123 : decode cX5_luck 123 = .ok (.iload 6, 2) := by decide +kernel
theorem dX5_luck_125 : decode cX5_luck 125 = .ok (.idiv, 1) := by decide +kernel
theorem dX5_luck_126 : decode cX5_luck 126 = .ok (.ireturn, 1) := by decide +kernel
theorem dX5_seed_0 : decode cX5_seed 0 = .ok (.aload_n 0, 1) := by decide +kernel
theorem dX5_seed_1 : decode cX5_seed 1 = .ok (.getfield 58, 3) := by decide +kernel
theorem dX5_seed_4 : decode cX5_seed 4 = .ok (.lstore_n 3, 1) := by decide +kernel
theorem dX5_seed_5 : decode cX5_seed 5 = .ok (.aload_n 0, 1) := by decide +kernel
theorem dX5_seed_6 : decode cX5_seed 6 = .ok (.lload_n 1, 1) := by decide +kernel
theorem dX5_seed_7 : decode cX5_seed 7 = .ok (.putfield 58, 3) := by decide +kernel
theorem dX5_seed_10 : decode cX5_seed 10 = .ok (.lload_n 3, 1) := by decide +kernel
theorem dX5_seed_11 : decode cX5_seed 11 = .ok (.lreturn, 1) := by decide +kernel
set_option maxRecDepth 20000 in
theorem ggX5_day_X5_isWithin : GoodIn wsX5_day wsX5_isWithin := goodIn_r _ [10] (by decide +kernel) (by decide +kernel)
set_option maxRecDepth 20000 in
theorem gX5_day_X5_isWithin : GoodIn wsX5_day (va_wsS RX5 75 yX5_isWithin wsX5_isWithin) := goodIn_app (goodIn_of _ (by decide +kernel)) ggX5_day_X5_isWithin
set_option maxRecDepth 20000 in
theorem ggX5_day_X3_copy : GoodIn wsX5_day wsX3_copy := goodIn_r _ [15, 16, 17, 18, 19, 20, 21, 22, 23, 24, 25, 26, 27, 121, 122, 123, 124, 125, 126, 127, 128, 129] (by decide +kernel) (by decide +kernel)
set_option maxRecDepth 20000 in
theorem gX5_day_X3_copy : GoodIn wsX5_day (wsV RX5 173 RX3 yX3_copy wsX3_copy) := goodIn_app (goodIn_of _ (by decide +kernel)) ggX5_day_X3_copy
set_option maxRecDepth 20000 in
theorem ggX5_day_X5_enact : GoodIn wsX5_day wsX5_enact := goodIn_r _ [31, 32, 33, 34, 35, 36, 37, 38, 8, 9, 10, 39, 40, 41, 14, 42, 43, 27, 44, 45, 46, 47, 19, 26, 21, 48, 49, 50, 16, 51, 52, 53, 54, 55, 56, 57, 58, 59, 60, 61, 62, 63, 64, 65, 66, 67, 68, 69, 70, 20, 71, 72, 73, 74, 75, 76, 77, 78, 79, 80, 81, 82, 83, 84, 7, 85, 86, 87, 88, 17, 89, 90, 91, 92, 18, 93, 94, 95, 96, 97, 98, 99, 100, 101, 102, 103, 104, 105, 106, 107, 108, 109, 110, 111, 112, 113, 114, 115, 116, 117, 118, 119, 120, 130, 131, 132, 133, 121, 122, 123, 124, 125, 126, 127, 128, 129] (by decide +kernel) (by decide +kernel)
set_option maxRecDepth 20000 in
theorem gX5_day_X5_enact : GoodIn wsX5_day (wsV RX5 209 RX5 yX5_enact wsX5_enact) := goodIn_app (goodIn_of _ (by decide +kernel)) ggX5_day_X5_enact
theorem dX5_day_0 : decode cX5_day 0 = .ok (.iload_n 1, 1) := by decide +kernel
theorem dX5_day_1 : decode cX5_day 1 = .ok (.iconst 1, 1) := by decide +kernel
theorem dX5_day_2 : decode cX5_day 2 = .ok (.bipush 20, 2) := by decide +kernel
theorem dX5_day_4 : decode cX5_day 4 = .ok (.invokestatic 75, 3) := by decide +kernel
theorem dX5_day_7 : decode cX5_day 7 = .ok (.ifCond .ne 6, 3) := by decide +kernel
theorem dX5_day_10 : decode cX5_day 10 = .ok (.bipush (-2), 2) := by decide +kernel
theorem dX5_day_12 : decode cX5_day 12 = .ok (.ireturn, 1) := by decide +kernel
theorem dX5_day_13 : decode cX5_day 13 = .ok (.aload_n 0, 1) := by decide +kernel
theorem dX5_day_14 : decode cX5_day 14 = .ok (.getfield 62, 3) := by decide +kernel
theorem dX5_day_17 : decode cX5_day 17 = .ok (.aload_n 0, 1) := by decide +kernel
theorem dX5_day_18 : decode cX5_day 18 = .ok (.getfield 28, 3) := by decide +kernel
theorem dX5_day_21 : decode cX5_day 21 = .ok (.invokevirtual 173, 3) := by decide +kernel
theorem dX5_day_24 : decode cX5_day 24 = .ok (.iconst 0, 1) := by decide +kernel
theorem dX5_day_25 : decode cX5_day 25 = .ok (.istore_n 2, 1) := by decide +kernel
theorem dX5_day_26 : decode cX5_day 26 = .ok (.iload_n 2, 1) := by decide +kernel
theorem dX5_day_27 : decode cX5_day 27 = .ok (.iload_n 1, 1) := by decide +kernel
theorem dX5_day_28 : decode cX5_day 28 = .ok (.if_icmp .ge 46, 3) := by decide +kernel
theorem dX5_day_31 : decode cX5_day 31 = .ok (.aload_n 0, 1) := by decide +kernel
theorem dX5_day_32 : decode cX5_day 32 = .ok (.aload_n 0, 1) := by decide +kernel
theorem dX5_day_33 : decode cX5_day 33 = .ok (.getfield 58, 3) := by decide +kernel
theorem dX5_day_36 : decode cX5_day 36 = .ok (.ldc2_w 245, 3) := by decide +kernel
theorem dX5_day_39 : decode cX5_day 39 = .ok (.lmul, 1) := by decide +kernel
theorem dX5_day_40 : decode cX5_day 40 = .ok (.ldc2_w 247, 3) := by decide +kernel
theorem dX5_day_43 : decode cX5_day 43 = .ok (.ladd, 1) := by decide +kernel
theorem dX5_day_44 : decode cX5_day 44 = .ok (.putfield 58, 3) := by decide +kernel
theorem dX5_day_47 : decode cX5_day 47 = .ok (.aload_n 0, 1) := by decide +kernel
theorem dX5_day_48 : decode cX5_day 48 = .ok (.aload_n 0, 1) := by decide +kernel
theorem dX5_day_49 : decode cX5_day 49 = .ok (.getfield 62, 3) := by decide +kernel
theorem dX5_day_52 : decode cX5_day 52 = .ok (.aload_n 0, 1) := by decide +kernel
theorem dX5_day_53 : decode cX5_day 53 = .ok (.getfield 58, 3) := by decide +kernel
theorem dX5_day_56 : decode cX5_day 56 = .ok (.bipush 33, 2) := by decide +kernel
theorem dX5_day_58 : decode cX5_day 58 = .ok (.lushr, 1) := by decide +kernel
theorem dX5_day_59 : decode cX5_day 59 = .ok (.ldc2_w 249, 3) := by decide +kernel
theorem dX5_day_62 : decode cX5_day 62 = .ok (.lrem, 1) := by decide +kernel
theorem dX5_day_63 : decode cX5_day 63 = .ok (.l2i, 1) := by decide +kernel
theorem dX5_day_64 : decode cX5_day 64 = .ok (.invokevirtual 209, 3) := by decide +kernel
theorem dX5_day_67 : decode cX5_day 67 = .ok (.pop, 1) := by decide +kernel
theorem dX5_day_68 : decode cX5_day 68 = .ok (.iinc 2 1, 3) := by decide +kernel
theorem dX5_day_71 : decode cX5_day 71 = .ok (.goto (-45), 3) := by decide +kernel
theorem dX5_day_74 : decode cX5_day 74 = .ok (.aload_n 0, 1) := by decide +kernel
theorem dX5_day_75 : decode cX5_day 75 = .ok (.getfield 62, 3) := by decide +kernel
theorem dX5_day_78 : decode cX5_day 78 = .ok (.getfield 112, 3) := by decide +kernel
theorem dX5_day_81 : decode cX5_day 81 = .ok (.ireturn, 1) := by decide +kernel
set_option maxRecDepth 20000 in
theorem ggX5_keep_X5_isSlot : GoodIn wsX5_keep wsX5_isSlot := goodIn_r _ [7, 8, 9, 6, 10] (by decide +kernel) (by decide +kernel)
set_option maxRecDepth 20000 in
theorem gX5_keep_X5_isSlot : GoodIn wsX5_keep (va_wsS RX5 251 yX5_isSlot wsX5_isSlot) := goodIn_app (goodIn_of _ (by decide +kernel)) ggX5_keep_X5_isSlot
set_option maxRecDepth 20000 in
theorem ggX5_keep_X3_copy : GoodIn wsX5_keep wsX3_copy := goodIn_r _ [15, 16, 17, 18, 19, 20, 21, 22, 23, 24, 25, 26, 27, 52, 53, 54, 55, 56, 57, 58, 59, 60] (by decide +kernel) (by decide +kernel)
set_option maxRecDepth 20000 in
theorem gX5_keep_X3_copy : GoodIn wsX5_keep (wsV RX5 173 RX3 yX3_copy wsX3_copy) := goodIn_app (goodIn_of _ (by decide +kernel)) ggX5_keep_X3_copy
set_option maxRecDepth 20000 in
theorem ggX5_keep_X3_ringSize : GoodIn wsX5_keep wsX3_ringSize := goodIn_r _ [31, 19, 32, 33, 34, 35, 36, 37, 38, 52, 53, 54, 55, 56, 57, 58, 59, 60] (by decide +kernel) (by decide +kernel)
set_option maxRecDepth 20000 in
theorem gX5_keep_X3_ringSize : GoodIn wsX5_keep (wsV RX5 161 RX3 yX3_ringSize wsX3_ringSize) := goodIn_app (goodIn_of _ (by decide +kernel)) ggX5_keep_X3_ringSize
theorem dX5_keep_0 : decode cX5_keep 0 = .ok (.iload_n 1, 1) := by decide +kernel
theorem dX5_keep_1 : decode cX5_keep 1 = .ok (.invokestatic 251, 3) := by decide +kernel
theorem dX5_keep_4 : decode cX5_keep 4 = .ok (.ifCond .ne 5, 3) := by decide +kernel
theorem dX5_keep_7 : decode cX5_keep 7 = .ok (.iconst (-1), 1) := by decide +kernel
theorem dX5_keep_8 : decode cX5_keep 8 = .ok (.ireturn, 1) := by decide +kernel
theorem dX5_keep_9 : decode cX5_keep 9 = .ok (.aload_n 0, 1) := by decide +kernel
theorem dX5_keep_10 : decode cX5_keep 10 = .ok (.getfield 39, 3) := by decide +kernel
theorem dX5_keep_13 : decode cX5_keep 13 = .ok (.iload_n 1, 1) := by decide +kernel
theorem dX5_keep_14 : decode cX5_keep 14 = .ok (.aaload, 1) := by decide +kernel
theorem dX5_keep_15 : decode cX5_keep 15 = .ok (.aload_n 0, 1) := by decide +kernel
theorem dX5_keep_16 : decode cX5_keep 16 = .ok (.getfield 28, 3) := by decide +kernel
theorem dX5_keep_19 : decode cX5_keep 19 = .ok (.invokevirtual 173, 3) := by decide +kernel
theorem dX5_keep_22 : decode cX5_keep 22 = .ok (.aload_n 0, 1) := by decide +kernel
theorem dX5_keep_23 : decode cX5_keep 23 = .ok (.getfield 43, 3) := by decide +kernel
theorem dX5_keep_26 : decode cX5_keep 26 = .ok (.iload_n 1, 1) := by decide +kernel
theorem dX5_keep_27 : decode cX5_keep 27 = .ok (.iconst 1, 1) := by decide +kernel
theorem dX5_keep_28 : decode cX5_keep 28 = .ok (.bastore, 1) := by decide +kernel
theorem dX5_keep_29 : decode cX5_keep 29 = .ok (.aload_n 0, 1) := by decide +kernel
theorem dX5_keep_30 : decode cX5_keep 30 = .ok (.getfield 28, 3) := by decide +kernel
theorem dX5_keep_33 : decode cX5_keep 33 = .ok (.invokevirtual 161, 3) := by decide +kernel
theorem dX5_keep_36 : decode cX5_keep 36 = .ok (.ireturn, 1) := by decide +kernel
set_option maxRecDepth 20000 in
theorem ggX5_again_X5_isSlot : GoodIn wsX5_again wsX5_isSlot := goodIn_r _ [8, 9, 10, 7, 11] (by decide +kernel) (by decide +kernel)
set_option maxRecDepth 20000 in
theorem gX5_again_X5_isSlot : GoodIn wsX5_again (va_wsS RX5 251 yX5_isSlot wsX5_isSlot) := goodIn_app (goodIn_of _ (by decide +kernel)) ggX5_again_X5_isSlot
set_option maxRecDepth 20000 in
theorem ggX5_again_X3_copy : GoodIn wsX5_again wsX3_copy := goodIn_r _ [16, 17, 18, 19, 20, 21, 22, 23, 24, 25, 26, 27, 28, 60, 61, 62, 63, 64, 65, 66, 67, 68] (by decide +kernel) (by decide +kernel)
set_option maxRecDepth 20000 in
theorem gX5_again_X3_copy : GoodIn wsX5_again (wsV RX5 173 RX3 yX3_copy wsX3_copy) := goodIn_app (goodIn_of _ (by decide +kernel)) ggX5_again_X3_copy
set_option maxRecDepth 20000 in
theorem ggX5_again_X0_forgetAll : GoodIn wsX5_again wsX0_forgetAll := goodIn_r _ [33, 34, 35, 69, 70, 71] (by decide +kernel) (by decide +kernel)
set_option maxRecDepth 20000 in
theorem gX5_again_X0_forgetAll : GoodIn wsX5_again (wsV RX5 100 RX0 yX0_forgetAll wsX0_forgetAll) := goodIn_app (goodIn_of _ (by decide +kernel)) ggX5_again_X0_forgetAll
set_option maxRecDepth 20000 in
theorem ggX5_again_X3_ringSize : GoodIn wsX5_again wsX3_ringSize := goodIn_r _ [39, 20, 40, 41, 42, 43, 44, 45, 46, 60, 61, 62, 63, 64, 65, 66, 67, 68] (by decide +kernel) (by decide +kernel)
set_option maxRecDepth 20000 in
theorem gX5_again_X3_ringSize : GoodIn wsX5_again (wsV RX5 161 RX3 yX3_ringSize wsX3_ringSize) := goodIn_app (goodIn_of _ (by decide +kernel)) ggX5_again_X3_ringSize
theorem dX5_again_0 : decode cX5_again 0 = .ok (.iload_n 1, 1) := by decide +kernel
theorem dX5_again_1 : decode cX5_again 1 = .ok (.invokestatic 251, 3) := by decide +kernel
theorem dX5_again_4 : decode cX5_again 4 = .ok (.ifCond .ne 5, 3) := by decide +kernel
theorem dX5_again_7 : decode cX5_again 7 = .ok (.iconst (-1), 1) := by decide +kernel
theorem dX5_again_8 : decode cX5_again 8 = .ok (.ireturn, 1) := by decide +kernel
theorem dX5_again_9 : decode cX5_again 9 = .ok (.aload_n 0, 1) := by decide +kernel
theorem dX5_again_10 : decode cX5_again 10 = .ok (.getfield 43, 3) := by decide +kernel
theorem dX5_again_13 : decode cX5_again 13 = .ok (.iload_n 1, 1) := by decide +kernel
theorem dX5_again_14 : decode cX5_again 14 = .ok (.baload, 1) := by decide +kernel
theorem dX5_again_15 : decode cX5_again 15 = .ok (.ifCond .ne 6, 3) := by decide +kernel
theorem dX5_again_18 : decode cX5_again 18 = .ok (.bipush (-3), 2) := by decide +kernel
theorem dX5_again_20 : decode cX5_again 20 = .ok (.ireturn, 1) := by decide +kernel
theorem dX5_again_21 : decode cX5_again 21 = .ok (.aload_n 0, 1) := by decide +kernel
theorem dX5_again_22 : decode cX5_again 22 = .ok (.getfield 28, 3) := by decide +kernel
theorem dX5_again_25 : decode cX5_again 25 = .ok (.aload_n 0, 1) := by decide +kernel
theorem dX5_again_26 : decode cX5_again 26 = .ok (.getfield 39, 3) := by decide +kernel
theorem dX5_again_29 : decode cX5_again 29 = .ok (.iload_n 1, 1) := by decide +kernel
theorem dX5_again_30 : decode cX5_again 30 = .ok (.aaload, 1) := by decide +kernel
theorem dX5_again_31 : decode cX5_again 31 = .ok (.invokevirtual 173, 3) := by decide +kernel
theorem dX5_again_34 : decode cX5_again 34 = .ok (.aload_n 0, 1) := by decide +kernel
theorem dX5_again_35 : decode cX5_again 35 = .ok (.getfield 35, 3) := by decide +kernel
theorem dX5_again_38 : decode cX5_again 38 = .ok (.invokevirtual 100, 3) := by decide +kernel
theorem dX5_again_41 : decode cX5_again 41 = .ok (.aload_n 0, 1) := by decide +kernel
theorem dX5_again_42 : decode cX5_again 42 = .ok (.getfield 28, 3) := by decide +kernel
theorem dX5_again_45 : decode cX5_again 45 = .ok (.invokevirtual 161, 3) := by decide +kernel
theorem dX5_again_48 : decode cX5_again 48 = .ok (.ireturn, 1) := by decide +kernel
theorem dX5_isWithin_0 : decode cX5_isWithin 0 = .ok (.iload_n 0, 1) := by decide +kernel
theorem dX5_isWithin_1 : decode cX5_isWithin 1 = .ok (.iload_n 1, 1) := by decide +kernel
theorem dX5_isWithin_2 : decode cX5_isWithin 2 = .ok (.if_icmp .lt 12, 3) := by decide +kernel
theorem dX5_isWithin_5 : decode cX5_isWithin 5 = .ok (.iload_n 0, 1) := by decide +kernel
theorem dX5_isWithin_6 : decode cX5_isWithin 6 = .ok (.iload_n 2, 1) := by decide +kernel
theorem dX5_isWithin_7 : decode cX5_isWithin 7 = .ok (.if_icmp .gt 7, 3) := by decide +kernel
theorem dX5_isWithin_10 : decode cX5_isWithin 10 = .ok (.iconst 1, 1) := by decide +kernel
theorem dX5_isWithin_11 : decode cX5_isWithin 11 = .ok (.goto 4, 3) := by decide +kernel
theorem dX5_isWithin_14 : decode cX5_isWithin 14 = .ok (.iconst 0, 1) := by decide +kernel
theorem dX5_isWithin_15 : decode cX5_isWithin 15 = .ok (.ireturn, 1) := by decide +kernel
set_option maxRecDepth 20000 in
theorem ggX5_isSide_X5_isWithin : GoodIn wsX5_isSide wsX5_isWithin := goodIn_r _ [4] (by decide +kernel) (by decide +kernel)
set_option maxRecDepth 20000 in
theorem gX5_isSide_X5_isWithin : GoodIn wsX5_isSide (va_wsS RX5 75 yX5_isWithin wsX5_isWithin) := goodIn_app (goodIn_of _ (by decide +kernel)) ggX5_isSide_X5_isWithin
theorem dX5_isSide_0 : decode cX5_isSide 0 = .ok (.iload_n 0, 1) := by decide +kernel
theorem dX5_isSide_1 : decode cX5_isSide 1 = .ok (.iconst 0, 1) := by decide +kernel
theorem dX5_isSide_2 : decode cX5_isSide 2 = .ok (.iconst 1, 1) := by decide +kernel
theorem dX5_isSide_3 : decode cX5_isSide 3 = .ok (.invokestatic 75, 3) := by decide +kernel
theorem dX5_isSide_6 : decode cX5_isSide 6 = .ok (.ireturn, 1) := by decide +kernel
set_option maxRecDepth 20000 in
theorem ggX5_isSlot_X5_isWithin : GoodIn wsX5_isSlot wsX5_isWithin := goodIn_r _ [4] (by decide +kernel) (by decide +kernel)
set_option maxRecDepth 20000 in
theorem gX5_isSlot_X5_isWithin : GoodIn wsX5_isSlot (va_wsS RX5 75 yX5_isWithin wsX5_isWithin) := goodIn_app (goodIn_of _ (by decide +kernel)) ggX5_isSlot_X5_isWithin
theorem dX5_isSlot_0 : decode cX5_isSlot 0 = .ok (.iload_n 0, 1) := by decide +kernel
theorem dX5_isSlot_1 : decode cX5_isSlot 1 = .ok (.iconst 0, 1) := by decide +kernel
theorem dX5_isSlot_2 : decode cX5_isSlot 2 = .ok (.iconst 1, 1) := by decide +kernel
theorem dX5_isSlot_3 : decode cX5_isSlot 3 = .ok (.invokestatic 75, 3) := by decide +kernel
theorem dX5_isSlot_6 : decode cX5_isSlot 6 = .ok (.ireturn, 1) := by decide +kernel
set_option maxRecDepth 20000 in
theorem ggX5_isCoins_X5_isWithin : GoodIn wsX5_isCoins wsX5_isWithin := goodIn_r _ [4] (by decide +kernel) (by decide +kernel)
set_option maxRecDepth 20000 in
theorem gX5_isCoins_X5_isWithin : GoodIn wsX5_isCoins (va_wsS RX5 75 yX5_isWithin wsX5_isWithin) := goodIn_app (goodIn_of _ (by decide +kernel)) ggX5_isCoins_X5_isWithin
theorem dX5_isCoins_0 : decode cX5_isCoins 0 = .ok (.iload_n 0, 1) := by decide +kernel
theorem dX5_isCoins_1 : decode cX5_isCoins 1 = .ok (.iconst 0, 1) := by decide +kernel
theorem dX5_isCoins_2 : decode cX5_isCoins 2 = .ok (.bipush 99, 2) := by decide +kernel
theorem dX5_isCoins_4 : decode cX5_isCoins 4 = .ok (.invokestatic 75, 3) := by decide +kernel
theorem dX5_isCoins_7 : decode cX5_isCoins 7 = .ok (.ireturn, 1) := by decide +kernel
theorem dX5_power_0 : decode cX5_power 0 = .ok (.iconst 1, 1) := by decide +kernel
theorem dX5_power_1 : decode cX5_power 1 = .ok (.istore_n 2, 1) := by decide +kernel
theorem dX5_power_2 : decode cX5_power 2 = .ok (.iconst 0, 1) := by decide +kernel
theorem dX5_power_3 : decode cX5_power 3 = .ok (.istore_n 3, 1) := by decide +kernel
theorem dX5_power_4 : decode cX5_power 4 = .ok (.iload_n 3, 1) := by decide +kernel
theorem dX5_power_5 : decode cX5_power 5 = .ok (.iload_n 1, 1) := by decide +kernel
theorem dX5_power_6 : decode cX5_power 6 = .ok (.if_icmp .ge 13, 3) := by decide +kernel
theorem dX5_power_9 : decode cX5_power 9 = .ok (.iload_n 2, 1) := by decide +kernel
theorem dX5_power_10 : decode cX5_power 10 = .ok (.iload_n 0, 1) := by decide +kernel
theorem dX5_power_11 : decode cX5_power 11 = .ok (.imul, 1) := by decide +kernel
theorem dX5_power_12 : decode cX5_power 12 = .ok (.istore_n 2, 1) := by decide +kernel
theorem dX5_power_13 : decode cX5_power 13 = .ok (.iinc 3 1, 3) := by decide +kernel
theorem dX5_power_16 : decode cX5_power 16 = .ok (.goto (-12), 3) := by decide +kernel
theorem dX5_power_19 : decode cX5_power 19 = .ok (.iload_n 2, 1) := by decide +kernel
theorem dX5_power_20 : decode cX5_power 20 = .ok (.ireturn, 1) := by decide +kernel
set_option maxRecDepth 20000 in
theorem ggX5_isRow_X5_power : GoodIn wsX5_isRow wsX5_power := goodIn_r _ [4] (by decide +kernel) (by decide +kernel)
set_option maxRecDepth 20000 in
theorem gX5_isRow_X5_power : GoodIn wsX5_isRow (va_wsS RX5 239 yX5_power wsX5_power) := goodIn_app (goodIn_of _ (by decide +kernel)) ggX5_isRow_X5_power
theorem dX5_isRow_0 : decode cX5_isRow 0 = .ok (.iload_n 1, 1) := by decide +kernel
theorem dX5_isRow_1 : decode cX5_isRow 1 = .ok (.ifCond .lt 17, 3) := by decide +kernel
theorem dX5_isRow_4 : decode cX5_isRow 4 = .ok (.iload_n 1, 1) := by decide +kernel
theorem dX5_isRow_5 : decode cX5_isRow 5 = .ok (.bipush 10, 2) := by decide +kernel
theorem dX5_isRow_7 : decode cX5_isRow 7 = .ok (.iload_n 0, 1) := by decide +kernel
theorem dX5_isRow_8 : decode cX5_isRow 8 = .ok (.invokestatic 239, 3) := by decide +kernel
theorem dX5_isRow_11 : decode cX5_isRow 11 = .ok (.if_icmp .ge 7, 3) := by decide +kernel
theorem dX5_isRow_14 : decode cX5_isRow 14 = .ok (.iconst 1, 1) := by decide +kernel
theorem dX5_isRow_15 : decode cX5_isRow 15 = .ok (.goto 4, 3) := by decide +kernel
theorem dX5_isRow_18 : decode cX5_isRow 18 = .ok (.iconst 0, 1) := by decide +kernel
theorem dX5_isRow_19 : decode cX5_isRow 19 = .ok (.ireturn, 1) := by decide +kernel
theorem dX5_figureAt_0 : decode cX5_figureAt 0 = .ok (.iload_n 1, 1) := by decide +kernel
theorem dX5_figureAt_1 : decode cX5_figureAt 1 = .ok (.istore_n 3, 1) := by decide +kernel
theorem dX5_figureAt_2 : decode cX5_figureAt 2 = .ok (.iload_n 0, 1) := by decide +kernel
theorem dX5_figureAt_3 : decode cX5_figureAt 3 = .ok (.iconst 1, 1) := by decide +kernel
theorem dX5_figureAt_4 : decode cX5_figureAt 4 = .ok (.isub, 1) := by decide +kernel
theorem dX5_figureAt_5 : decode cX5_figureAt 5 = .ok (.istore 4, 2) := by decide +kernel
theorem dX5_figureAt_7 : decode cX5_figureAt 7 = .ok (.iload 4, 2) := by decide +kernel
theorem dX5_figureAt_9 : decode cX5_figureAt 9 = .ok (.iload_n 2, 1) := by decide +kernel
theorem dX5_figureAt_10 : decode cX5_figureAt 10 = .ok (.if_icmp .le 14, 3) := by decide +kernel
theorem dX5_figureAt_13 : decode cX5_figureAt 13 = .ok (.iload_n 3, 1) := by decide +kernel
theorem dX5_figureAt_14 : decode cX5_figureAt 14 = .ok (.bipush 10, 2) := by decide +kernel
theorem dX5_figureAt_16 : decode cX5_figureAt 16 = .ok (.idiv, 1) := by decide +kernel
theorem dX5_figureAt_17 : decode cX5_figureAt 17 = .ok (.istore_n 3, 1) := by decide +kernel
theorem dX5_figureAt_18 : decode cX5_figureAt 18 = .ok (.iinc 4 (-1), 3) := by decide +kernel
theorem dX5_figureAt_21 : decode cX5_figureAt 21 = .ok (.goto (-14), 3) := by decide +kernel
theorem dX5_figureAt_24 : decode cX5_figureAt 24 = .ok (.iload_n 3, 1) := by decide +kernel
theorem dX5_figureAt_25 : decode cX5_figureAt 25 = .ok (.bipush 10, 2) := by decide +kernel
theorem dX5_figureAt_27 : decode cX5_figureAt 27 = .ok (.irem, 1) := by decide +kernel
theorem dX5_figureAt_28 : decode cX5_figureAt 28 = .ok (.ireturn, 1) := by decide +kernel
set_option maxRecDepth 20000 in
theorem ggX5_areTunes_X5_figureAt : GoodIn wsX5_areTunes wsX5_figureAt := goodIn_r _ [5] (by decide +kernel) (by decide +kernel)
set_option maxRecDepth 20000 in
theorem gX5_areTunes_X5_figureAt : GoodIn wsX5_areTunes (va_wsS RX5 205 yX5_figureAt wsX5_figureAt) := goodIn_app (goodIn_of _ (by decide +kernel)) ggX5_areTunes_X5_figureAt
set_option maxRecDepth 20000 in
theorem ggX5_areTunes_X2_hasTune : GoodIn wsX5_areTunes wsX2_hasTune := goodIn_r _ [10, 11, 12, 4, 13, 27, 28, 29, 30] (by decide +kernel) (by decide +kernel)
set_option maxRecDepth 20000 in
theorem gX5_areTunes_X2_hasTune : GoodIn wsX5_areTunes (wsV RX5 145 RX2 yX2_hasTune wsX2_hasTune) := goodIn_app (goodIn_of _ (by decide +kernel)) ggX5_areTunes_X2_hasTune
theorem dX5_areTunes_0 : decode cX5_areTunes 0 = .ok (.iconst 0, 1) := by decide +kernel
theorem dX5_areTunes_1 : decode cX5_areTunes 1 = .ok (.istore_n 3, 1) := by decide +kernel
theorem dX5_areTunes_2 : decode cX5_areTunes 2 = .ok (.iload_n 3, 1) := by decide +kernel
theorem dX5_areTunes_3 : decode cX5_areTunes 3 = .ok (.iload_n 1, 1) := by decide +kernel
theorem dX5_areTunes_4 : decode cX5_areTunes 4 = .ok (.if_icmp .ge 27, 3) := by decide +kernel
theorem dX5_areTunes_7 : decode cX5_areTunes 7 = .ok (.aload_n 0, 1) := by decide +kernel
theorem dX5_areTunes_8 : decode cX5_areTunes 8 = .ok (.getfield 19, 3) := by decide +kernel
theorem dX5_areTunes_11 : decode cX5_areTunes 11 = .ok (.iload_n 1, 1) := by decide +kernel
theorem dX5_areTunes_12 : decode cX5_areTunes 12 = .ok (.iload_n 2, 1) := by decide +kernel
theorem dX5_areTunes_13 : decode cX5_areTunes 13 = .ok (.iload_n 3, 1) := by decide +kernel
theorem dX5_areTunes_14 : decode cX5_areTunes 14 = .ok (.invokestatic 205, 3) := by decide +kernel
theorem dX5_areTunes_17 : decode cX5_areTunes 17 = .ok (.invokevirtual 145, 3) := by decide +kernel
theorem dX5_areTunes_20 : decode cX5_areTunes 20 = .ok (.ifCond .ne 5, 3) := by decide +kernel
theorem dX5_areTunes_23 : decode cX5_areTunes 23 = .ok (.iconst 0, 1) := by decide +kernel
theorem dX5_areTunes_24 : decode cX5_areTunes 24 = .ok (.ireturn, 1) := by decide +kernel
theorem dX5_areTunes_25 : decode cX5_areTunes 25 = .ok (.iinc 3 1, 3) := by decide +kernel
theorem dX5_areTunes_28 : decode cX5_areTunes 28 = .ok (.goto (-26), 3) := by decide +kernel
theorem dX5_areTunes_31 : decode cX5_areTunes 31 = .ok (.iconst 1, 1) := by decide +kernel
theorem dX5_areTunes_32 : decode cX5_areTunes 32 = .ok (.ireturn, 1) := by decide +kernel
set_option maxRecDepth 20000 in
theorem ggX5_hearRow_X5_figureAt : GoodIn wsX5_hearRow wsX5_figureAt := goodIn_r _ [4] (by decide +kernel) (by decide +kernel)
set_option maxRecDepth 20000 in
theorem gX5_hearRow_X5_figureAt : GoodIn wsX5_hearRow (va_wsS RX5 205 yX5_figureAt wsX5_figureAt) := goodIn_app (goodIn_of _ (by decide +kernel)) ggX5_hearRow_X5_figureAt
set_option maxRecDepth 20000 in
theorem ggX5_hearRow_X3_hear : GoodIn wsX5_hearRow wsX3_hear := goodIn_r _ [9, 10, 11, 12, 13, 14, 15, 16, 17, 18, 19, 20, 21, 22, 23, 24, 25, 26, 27, 28, 29, 3, 30, 31, 32, 33, 34, 35, 36, 37, 38, 39, 40, 41, 42, 43, 44, 45, 46, 47, 48, 8, 49, 50, 51, 52, 53, 54, 55, 56, 57, 58, 59, 60, 61, 62, 63, 64, 65, 66, 67, 68, 69, 70, 71, 72, 73, 74] (by decide +kernel) (by decide +kernel)
set_option maxRecDepth 20000 in
theorem gX5_hearRow_X3_hear : GoodIn wsX5_hearRow (wsV RX5 158 RX3 yX3_hear wsX3_hear) := goodIn_app (goodIn_of _ (by decide +kernel)) ggX5_hearRow_X3_hear
theorem dX5_hearRow_0 : decode cX5_hearRow 0 = .ok (.iconst 0, 1) := by decide +kernel
theorem dX5_hearRow_1 : decode cX5_hearRow 1 = .ok (.istore_n 3, 1) := by decide +kernel
theorem dX5_hearRow_2 : decode cX5_hearRow 2 = .ok (.iload_n 3, 1) := by decide +kernel
theorem dX5_hearRow_3 : decode cX5_hearRow 3 = .ok (.iload_n 1, 1) := by decide +kernel
theorem dX5_hearRow_4 : decode cX5_hearRow 4 = .ok (.if_icmp .ge 19, 3) := by decide +kernel
theorem dX5_hearRow_7 : decode cX5_hearRow 7 = .ok (.aload_n 0, 1) := by decide +kernel
theorem dX5_hearRow_8 : decode cX5_hearRow 8 = .ok (.iload_n 1, 1) := by decide +kernel
theorem dX5_hearRow_9 : decode cX5_hearRow 9 = .ok (.iload_n 2, 1) := by decide +kernel
theorem dX5_hearRow_10 : decode cX5_hearRow 10 = .ok (.iload_n 3, 1) := by decide +kernel
theorem dX5_hearRow_11 : decode cX5_hearRow 11 = .ok (.invokestatic 205, 3) := by decide +kernel
theorem dX5_hearRow_14 : decode cX5_hearRow 14 = .ok (.invokevirtual 158, 3) := by decide +kernel
theorem dX5_hearRow_17 : decode cX5_hearRow 17 = .ok (.iinc 3 1, 3) := by decide +kernel
theorem dX5_hearRow_20 : decode cX5_hearRow 20 = .ok (.goto (-18), 3) := by decide +kernel
theorem dX5_hearRow_23 : decode cX5_hearRow 23 = .ok (.return_, 1) := by decide +kernel
set_option maxRecDepth 20000 in
theorem ggX5_enact_X2_hasTune : GoodIn wsX5_enact wsX2_hasTune := goodIn_r _ [6, 7, 8, 9, 10, 103, 104, 105, 106] (by decide +kernel) (by decide +kernel)
set_option maxRecDepth 20000 in
theorem gX5_enact_X2_hasTune : GoodIn wsX5_enact (wsV RX5 145 RX2 yX2_hasTune wsX2_hasTune) := goodIn_app (goodIn_of _ (by decide +kernel)) ggX5_enact_X2_hasTune
set_option maxRecDepth 20000 in
theorem ggX5_enact_X3_hear : GoodIn wsX5_enact wsX3_hear := goodIn_r _ [15, 16, 17, 18, 19, 20, 21, 22, 23, 24, 25, 26, 27, 28, 29, 3, 4, 5, 6, 7, 8, 9, 10, 30, 31, 32, 33, 34, 35, 36, 37, 38, 39, 40, 41, 42, 43, 44, 45, 46, 47, 14, 48, 49, 50, 51, 52, 53, 54, 55, 56, 57, 58, 59, 60, 107, 108, 109, 110, 111, 112, 113, 114, 115, 103, 104, 105, 106] (by decide +kernel) (by decide +kernel)
set_option maxRecDepth 20000 in
theorem gX5_enact_X3_hear : GoodIn wsX5_enact (wsV RX5 158 RX3 yX3_hear wsX3_hear) := goodIn_app (goodIn_of _ (by decide +kernel)) ggX5_enact_X3_hear
set_option maxRecDepth 20000 in
theorem ggX5_enact_X5_isSide : GoodIn wsX5_enact wsX5_isSide := goodIn_r _ [63, 64, 8, 9, 10] (by decide +kernel) (by decide +kernel)
set_option maxRecDepth 20000 in
theorem gX5_enact_X5_isSide : GoodIn wsX5_enact (va_wsS RX5 164 yX5_isSide wsX5_isSide) := goodIn_app (goodIn_of _ (by decide +kernel)) ggX5_enact_X5_isSide
set_option maxRecDepth 20000 in
theorem ggX5_enact_X3_passHat : GoodIn wsX5_enact wsX3_passHat := goodIn_r _ [68, 69, 28, 70, 71, 72, 14, 73, 22, 16, 74, 18, 19, 20, 21, 24, 38, 9, 39, 40, 41, 42, 5, 43, 44, 35, 36, 37, 75, 76, 77, 78, 25, 26, 27, 79, 80, 81, 82, 83, 84, 85, 86, 87, 88, 89, 107, 108, 109, 110, 111, 112, 113, 114, 115, 103, 104, 105, 106] (by decide +kernel) (by decide +kernel)
set_option maxRecDepth 20000 in
theorem gX5_enact_X3_passHat : GoodIn wsX5_enact (wsV RX5 167 RX3 yX3_passHat wsX3_passHat) := goodIn_app (goodIn_of _ (by decide +kernel)) ggX5_enact_X3_passHat
theorem dX5_enact_0 : decode cX5_enact 0 = .ok (.aload_n 0, 1) := by decide +kernel
theorem dX5_enact_1 : decode cX5_enact 1 = .ok (.getfield 19, 3) := by decide +kernel
theorem dX5_enact_4 : decode cX5_enact 4 = .ok (.iload_n 2, 1) := by decide +kernel
theorem dX5_enact_5 : decode cX5_enact 5 = .ok (.invokevirtual 145, 3) := by decide +kernel
theorem dX5_enact_8 : decode cX5_enact 8 = .ok (.ifCond .eq 10, 3) := by decide +kernel
theorem dX5_enact_11 : decode cX5_enact 11 = .ok (.aload_n 1, 1) := by decide +kernel
theorem dX5_enact_12 : decode cX5_enact 12 = .ok (.iload_n 2, 1) := by decide +kernel
theorem dX5_enact_13 : decode cX5_enact 13 = .ok (.invokevirtual 158, 3) := by decide +kernel
theorem dX5_enact_16 : decode cX5_enact 16 = .ok (.iconst 1, 1) := by decide +kernel
theorem dX5_enact_17 : decode cX5_enact 17 = .ok (.ireturn, 1) := by decide +kernel
theorem dX5_enact_18 : decode cX5_enact 18 = .ok (.iload_n 2, 1) := by decide +kernel
theorem dX5_enact_19 : decode cX5_enact 19 = .ok (.iconst 4, 1) := by decide +kernel
theorem dX5_enact_20 : decode cX5_enact 20 = .ok (.isub, 1) := by decide +kernel
theorem dX5_enact_21 : decode cX5_enact 21 = .ok (.invokestatic 164, 3) := by decide +kernel
theorem dX5_enact_24 : decode cX5_enact 24 = .ok (.ifCond .eq 13, 3) := by decide +kernel
theorem dX5_enact_27 : decode cX5_enact 27 = .ok (.aload_n 1, 1) := by decide +kernel
theorem dX5_enact_28 : decode cX5_enact 28 = .ok (.iload_n 2, 1) := by decide +kernel
theorem dX5_enact_29 : decode cX5_enact 29 = .ok (.iconst 4, 1) := by decide +kernel
theorem dX5_enact_30 : decode cX5_enact 30 = .ok (.isub, 1) := by decide +kernel
theorem dX5_enact_31 : decode cX5_enact 31 = .ok (.invokevirtual 167, 3) := by decide +kernel
theorem dX5_enact_34 : decode cX5_enact 34 = .ok (.pop, 1) := by decide +kernel
theorem dX5_enact_35 : decode cX5_enact 35 = .ok (.iconst 1, 1) := by decide +kernel
theorem dX5_enact_36 : decode cX5_enact 36 = .ok (.ireturn, 1) := by decide +kernel
theorem dX5_enact_37 : decode cX5_enact 37 = .ok (.iconst 0, 1) := by decide +kernel
theorem dX5_enact_38 : decode cX5_enact 38 = .ok (.ireturn, 1) := by decide +kernel
set_option maxRecDepth 20000 in
theorem ggX5_hatBehind_X3_copy : GoodIn wsX5_hatBehind wsX3_copy := goodIn_r _ [6, 7, 8, 9, 10, 11, 12, 13, 14, 15, 16, 17, 18, 75, 76, 77, 78, 79, 80, 81, 82, 83] (by decide +kernel) (by decide +kernel)
set_option maxRecDepth 20000 in
theorem gX5_hatBehind_X3_copy : GoodIn wsX5_hatBehind (wsV RX5 173 RX3 yX3_copy wsX3_copy) := goodIn_app (goodIn_of _ (by decide +kernel)) ggX5_hatBehind_X3_copy
set_option maxRecDepth 20000 in
theorem ggX5_hatBehind_X3_passHat : GoodIn wsX5_hatBehind wsX3_passHat := goodIn_r _ [22, 8, 7, 23, 24, 25, 5, 26, 10, 27, 9, 28, 29, 30, 31, 12, 32, 33, 34, 35, 36, 37, 38, 39, 40, 41, 42, 43, 44, 45, 46, 47, 48, 49, 50, 51, 52, 53, 54, 55, 56, 57, 58, 59, 60, 61, 75, 76, 77, 78, 79, 80, 81, 82, 83, 84, 85, 86, 87] (by decide +kernel) (by decide +kernel)
set_option maxRecDepth 20000 in
theorem gX5_hatBehind_X3_passHat : GoodIn wsX5_hatBehind (wsV RX5 167 RX3 yX3_passHat wsX3_passHat) := goodIn_app (goodIn_of _ (by decide +kernel)) ggX5_hatBehind_X3_passHat
theorem dX5_hatBehind_0 : decode cX5_hatBehind 0 = .ok (.aload_n 0, 1) := by decide +kernel
theorem dX5_hatBehind_1 : decode cX5_hatBehind 1 = .ok (.getfield 65, 3) := by decide +kernel
theorem dX5_hatBehind_4 : decode cX5_hatBehind 4 = .ok (.aload_n 1, 1) := by decide +kernel
theorem dX5_hatBehind_5 : decode cX5_hatBehind 5 = .ok (.invokevirtual 173, 3) := by decide +kernel
theorem dX5_hatBehind_8 : decode cX5_hatBehind 8 = .ok (.aload_n 0, 1) := by decide +kernel
theorem dX5_hatBehind_9 : decode cX5_hatBehind 9 = .ok (.getfield 65, 3) := by decide +kernel
theorem dX5_hatBehind_12 : decode cX5_hatBehind 12 = .ok (.iload_n 2, 1) := by decide +kernel
theorem dX5_hatBehind_13 : decode cX5_hatBehind 13 = .ok (.invokevirtual 167, 3) := by decide +kernel
theorem dX5_hatBehind_16 : decode cX5_hatBehind 16 = .ok (.ireturn, 1) := by decide +kernel
set_option maxRecDepth 20000 in
theorem ggX5_searchPlan_X1_clear : GoodIn wsX5_searchPlan wsX1_clear := goodIn_r _ [8, 9, 10, 139, 140] (by decide +kernel) (by decide +kernel)
set_option maxRecDepth 20000 in
theorem gX5_searchPlan_X1_clear : GoodIn wsX5_searchPlan (wsV RX5 185 RX1 yX1_clear wsX1_clear) := goodIn_app (goodIn_of _ (by decide +kernel)) ggX5_searchPlan_X1_clear
set_option maxRecDepth 20000 in
theorem ggX5_searchPlan_X5_power : GoodIn wsX5_searchPlan wsX5_power := goodIn_r _ [14] (by decide +kernel) (by decide +kernel)
set_option maxRecDepth 20000 in
theorem gX5_searchPlan_X5_power : GoodIn wsX5_searchPlan (va_wsS RX5 239 yX5_power wsX5_power) := goodIn_app (goodIn_of _ (by decide +kernel)) ggX5_searchPlan_X5_power
set_option maxRecDepth 20000 in
theorem ggX5_searchPlan_X5_areTunes : GoodIn wsX5_searchPlan wsX5_areTunes := goodIn_r _ [18, 19, 20, 21, 13, 22, 23, 24, 25, 26, 27, 28, 29, 30, 126, 127, 128, 129, 130, 131, 132, 133, 134, 135, 136, 137, 138, 141, 142, 143, 144] (by decide +kernel) (by decide +kernel)
set_option maxRecDepth 20000 in
theorem gX5_searchPlan_X5_areTunes : GoodIn wsX5_searchPlan (wsV RX5 198 RX5 yX5_areTunes wsX5_areTunes) := goodIn_app (goodIn_of _ (by decide +kernel)) ggX5_searchPlan_X5_areTunes
set_option maxRecDepth 20000 in
theorem ggX5_searchPlan_X3_copy : GoodIn wsX5_searchPlan wsX3_copy := goodIn_r _ [35, 36, 37, 38, 39, 40, 41, 42, 43, 44, 45, 46, 47, 145, 146, 147, 148, 149, 150, 151, 152, 153] (by decide +kernel) (by decide +kernel)
set_option maxRecDepth 20000 in
theorem gX5_searchPlan_X3_copy : GoodIn wsX5_searchPlan (wsV RX5 173 RX3 yX3_copy wsX3_copy) := goodIn_app (goodIn_of _ (by decide +kernel)) ggX5_searchPlan_X3_copy
set_option maxRecDepth 20000 in
theorem ggX5_searchPlan_X5_hearRow : GoodIn wsX5_searchPlan wsX5_hearRow := goodIn_r _ [50, 20, 21, 13, 22, 51, 52, 53, 34, 54, 55, 47, 56, 57, 58, 59, 39, 46, 41, 60, 61, 62, 36, 63, 24, 25, 26, 27, 28, 29, 30, 64, 65, 66, 67, 68, 69, 70, 71, 72, 73, 74, 75, 76, 77, 78, 79, 80, 81, 82, 40, 83, 84, 85, 86, 87, 88, 89, 90, 91, 92, 93, 145, 146, 147, 148, 149, 150, 151, 152, 153, 141, 142, 143, 144] (by decide +kernel) (by decide +kernel)
set_option maxRecDepth 20000 in
theorem gX5_searchPlan_X5_hearRow : GoodIn wsX5_searchPlan (va_wsS RX5 201 yX5_hearRow wsX5_hearRow) := goodIn_app (goodIn_of _ (by decide +kernel)) ggX5_searchPlan_X5_hearRow
set_option maxRecDepth 20000 in
theorem ggX5_searchPlan_X5_hatBehind : GoodIn wsX5_searchPlan wsX5_hatBehind := goodIn_r _ [97, 98, 31, 32, 33, 34, 35, 36, 37, 38, 39, 40, 41, 42, 43, 44, 45, 46, 47, 99, 100, 101, 102, 103, 104, 105, 106, 55, 56, 57, 58, 59, 72, 13, 73, 74, 75, 76, 26, 77, 78, 69, 70, 71, 107, 108, 109, 110, 60, 61, 62, 111, 112, 113, 114, 115, 116, 117, 118, 119, 120, 121, 126, 127, 128, 129, 130, 131, 132, 133, 134, 135, 136, 137, 138, 145, 146, 147, 148, 149, 150, 151, 152, 153, 141, 142, 143, 144] (by decide +kernel) (by decide +kernel)
set_option maxRecDepth 20000 in
theorem gX5_searchPlan_X5_hatBehind : GoodIn wsX5_searchPlan (wsV RX5 186 RX5 yX5_hatBehind wsX5_hatBehind) := goodIn_app (goodIn_of _ (by decide +kernel)) ggX5_searchPlan_X5_hatBehind
set_option maxRecDepth 20000 in
theorem ggX5_searchPlan_X1_offer : GoodIn wsX5_searchPlan wsX1_offer := goodIn_r _ [125, 9, 10, 139, 140] (by decide +kernel) (by decide +kernel)
set_option maxRecDepth 20000 in
theorem gX5_searchPlan_X1_offer : GoodIn wsX5_searchPlan (wsV RX5 190 RX1 yX1_offer wsX1_offer) := goodIn_app (goodIn_of _ (by decide +kernel)) ggX5_searchPlan_X1_offer
theorem dX5_searchPlan_0 : decode cX5_searchPlan 0 = .ok (.aload_n 0, 1) := by decide +kernel
theorem dX5_searchPlan_1 : decode cX5_searchPlan 1 = .ok (.getfield 71, 3) := by decide +kernel
theorem dX5_searchPlan_4 : decode cX5_searchPlan 4 = .ok (.invokevirtual 185, 3) := by decide +kernel
theorem dX5_searchPlan_7 : decode cX5_searchPlan 7 = .ok (.bipush 10, 2) := by decide +kernel
theorem dX5_searchPlan_9 : decode cX5_searchPlan 9 = .ok (.iload_n 1, 1) := by decide +kernel
theorem dX5_searchPlan_10 : decode cX5_searchPlan 10 = .ok (.invokestatic 239, 3) := by decide +kernel
theorem dX5_searchPlan_13 : decode cX5_searchPlan 13 = .ok (.istore_n 2, 1) := by decide +kernel
theorem dX5_searchPlan_14 : decode cX5_searchPlan 14 = .ok (.iconst 0, 1) := by decide +kernel
theorem dX5_searchPlan_15 : decode cX5_searchPlan 15 = .ok (.istore_n 3, 1) := by decide +kernel
theorem dX5_searchPlan_16 : decode cX5_searchPlan 16 = .ok (.iload_n 3, 1) := by decide +kernel
theorem dX5_searchPlan_17 : decode cX5_searchPlan 17 = .ok (.iload_n 2, 1) := by decide +kernel
theorem dX5_searchPlan_18 : decode cX5_searchPlan 18 = .ok (.if_icmp .ge 79, 3) := by decide +kernel
theorem dX5_searchPlan_21 : decode cX5_searchPlan 21 = .ok (.aload_n 0, 1) := by decide +kernel
theorem dX5_searchPlan_22 : decode cX5_searchPlan 22 = .ok (.iload_n 1, 1) := by decide +kernel
theorem dX5_searchPlan_23 : decode cX5_searchPlan 23 = .ok (.iload_n 3, 1) := by decide +kernel
theorem dX5_searchPlan_24 : decode cX5_searchPlan 24 = .ok (.invokevirtual 198, 3) := by decide +kernel
theorem dX5_searchPlan_27 : decode cX5_searchPlan 27 = .ok (.ifCond .ne 6, 3) := by decide +kernel
theorem dX5_searchPlan_30 : decode cX5_searchPlan 30 = .ok (.goto 61, 3) := by decide +kernel
theorem dX5_searchPlan_33 : decode cX5_searchPlan 33 = .ok (.aload_n 0, 1) := by decide +kernel
theorem dX5_searchPlan_34 : decode cX5_searchPlan 34 = .ok (.getfield 62, 3) := by decide +kernel
theorem dX5_searchPlan_37 : decode cX5_searchPlan 37 = .ok (.aload_n 0, 1) := by decide +kernel
theorem dX5_searchPlan_38 : decode cX5_searchPlan 38 = .ok (.getfield 28, 3) := by decide +kernel
theorem dX5_searchPlan_41 : decode cX5_searchPlan 41 = .ok (.invokevirtual 173, 3) := by decide +kernel
theorem dX5_searchPlan_44 : decode cX5_searchPlan 44 = .ok (.aload_n 0, 1) := by decide +kernel
theorem dX5_searchPlan_45 : decode cX5_searchPlan 45 = .ok (.getfield 62, 3) := by decide +kernel
theorem dX5_searchPlan_48 : decode cX5_searchPlan 48 = .ok (.iload_n 1, 1) := by decide +kernel
theorem dX5_searchPlan_49 : decode cX5_searchPlan 49 = .ok (.iload_n 3, 1) := by decide +kernel
theorem dX5_searchPlan_50 : decode cX5_searchPlan 50 = .ok (.invokestatic 201, 3) := by decide +kernel
theorem dX5_searchPlan_53 : decode cX5_searchPlan 53 = .ok (.iconst 0, 1) := by decide +kernel
theorem dX5_searchPlan_54 : decode cX5_searchPlan 54 = .ok (.istore 4, 2) := by decide +kernel
theorem dX5_searchPlan_56 : decode cX5_searchPlan 56 = .ok (.iload 4, 2) := by decide +kernel
theorem dX5_searchPlan_58 : decode cX5_searchPlan 58 = .ok (.iconst 2, 1) := by decide +kernel
theorem dX5_searchPlan_59 : decode cX5_searchPlan 59 = .ok (.if_icmp .ge 32, 3) := by decide +kernel
theorem dX5_searchPlan_62 : decode cX5_searchPlan 62 = .ok (.aload_n 0, 1) := by decide +kernel
theorem dX5_searchPlan_63 : decode cX5_searchPlan 63 = .ok (.getfield 71, 3) := by decide +kernel
theorem dX5_searchPlan_66 : decode cX5_searchPlan 66 = .ok (.aload_n 0, 1) := by decide +kernel
theorem dX5_searchPlan_67 : decode cX5_searchPlan 67 = .ok (.aload_n 0, 1) := by decide +kernel
theorem dX5_searchPlan_68 : decode cX5_searchPlan 68 = .ok (.getfield 62, 3) := by decide +kernel
theorem dX5_searchPlan_71 : decode cX5_searchPlan 71 = .ok (.iload 4, 2) := by decide +kernel
theorem dX5_searchPlan_73 : decode cX5_searchPlan 73 = .ok (.invokevirtual 186, 3) := by decide +kernel
theorem dX5_searchPlan_76 : decode cX5_searchPlan 76 = .ok (.iload_n 3, 1) := by decide +kernel
theorem dX5_searchPlan_77 : decode cX5_searchPlan 77 = .ok (.iconst 2, 1) := by decide +kernel
theorem dX5_searchPlan_78 : decode cX5_searchPlan 78 = .ok (.imul, 1) := by decide +kernel
theorem dX5_searchPlan_79 : decode cX5_searchPlan 79 = .ok (.iload 4, 2) := by decide +kernel
theorem dX5_searchPlan_81 : decode cX5_searchPlan 81 = .ok (.iadd, 1) := by decide +kernel
theorem dX5_searchPlan_82 : decode cX5_searchPlan 82 = .ok (.invokevirtual 190, 3) := by decide +kernel
theorem dX5_searchPlan_85 : decode cX5_searchPlan 85 = .ok (.iinc 4 1, 3) := by decide +kernel
theorem dX5_searchPlan_88 : decode cX5_searchPlan 88 = .ok (.goto (-32), 3) := by decide +kernel
theorem dX5_searchPlan_91 : decode cX5_searchPlan 91 = .ok (.iinc 3 1, 3) := by decide +kernel
theorem dX5_searchPlan_94 : decode cX5_searchPlan 94 = .ok (.goto (-78), 3) := by decide +kernel
theorem dX5_searchPlan_97 : decode cX5_searchPlan 97 = .ok (.return_, 1) := by decide +kernel
theorem dX5_gainOf_0 : decode cX5_gainOf 0 = .ok (.iload_n 1, 1) := by decide +kernel
theorem dX5_gainOf_1 : decode cX5_gainOf 1 = .ok (.iload_n 2, 1) := by decide +kernel
theorem dX5_gainOf_2 : decode cX5_gainOf 2 = .ok (.if_icmp .le 9, 3) := by decide +kernel
theorem dX5_gainOf_5 : decode cX5_gainOf 5 = .ok (.iconst 2, 1) := by decide +kernel
theorem dX5_gainOf_6 : decode cX5_gainOf 6 = .ok (.iload_n 0, 1) := by decide +kernel
theorem dX5_gainOf_7 : decode cX5_gainOf 7 = .ok (.imul, 1) := by decide +kernel
theorem dX5_gainOf_8 : decode cX5_gainOf 8 = .ok (.goto 13, 3) := by decide +kernel
theorem dX5_gainOf_11 : decode cX5_gainOf 11 = .ok (.iload_n 1, 1) := by decide +kernel
theorem dX5_gainOf_12 : decode cX5_gainOf 12 = .ok (.iload_n 2, 1) := by decide +kernel
theorem dX5_gainOf_13 : decode cX5_gainOf 13 = .ok (.if_icmp .ne 7, 3) := by decide +kernel
theorem dX5_gainOf_16 : decode cX5_gainOf 16 = .ok (.iload_n 0, 1) := by decide +kernel
theorem dX5_gainOf_17 : decode cX5_gainOf 17 = .ok (.goto 4, 3) := by decide +kernel
theorem dX5_gainOf_20 : decode cX5_gainOf 20 = .ok (.iconst 0, 1) := by decide +kernel
theorem dX5_gainOf_21 : decode cX5_gainOf 21 = .ok (.istore_n 3, 1) := by decide +kernel
theorem dX5_gainOf_22 : decode cX5_gainOf 22 = .ok (.iload_n 3, 1) := by decide +kernel
theorem dX5_gainOf_23 : decode cX5_gainOf 23 = .ok (.iload_n 1, 1) := by decide +kernel
theorem dX5_gainOf_24 : decode cX5_gainOf 24 = .ok (.iload_n 1, 1) := by decide +kernel
theorem dX5_gainOf_25 : decode cX5_gainOf 25 = .ok (.imul, 1) := by decide +kernel
theorem dX5_gainOf_26 : decode cX5_gainOf 26 = .ok (.isub, 1) := by decide +kernel
theorem dX5_gainOf_27 : decode cX5_gainOf 27 = .ok (.ireturn, 1) := by decide +kernel
set_option maxRecDepth 20000 in
theorem ggX5_isContent_X5_gainOf : GoodIn wsX5_isContent wsX5_gainOf := goodIn_r _ [4] (by decide +kernel) (by decide +kernel)
set_option maxRecDepth 20000 in
theorem gX5_isContent_X5_gainOf : GoodIn wsX5_isContent (va_wsS RX5 254 yX5_gainOf wsX5_gainOf) := goodIn_app (goodIn_of _ (by decide +kernel)) ggX5_isContent_X5_gainOf
theorem dX5_isContent_0 : decode cX5_isContent 0 = .ok (.iconst 0, 1) := by decide +kernel
theorem dX5_isContent_1 : decode cX5_isContent 1 = .ok (.istore_n 3, 1) := by decide +kernel
theorem dX5_isContent_2 : decode cX5_isContent 2 = .ok (.iload_n 3, 1) := by decide +kernel
theorem dX5_isContent_3 : decode cX5_isContent 3 = .ok (.iconst 5, 1) := by decide +kernel
theorem dX5_isContent_4 : decode cX5_isContent 4 = .ok (.if_icmp .gt 26, 3) := by decide +kernel
theorem dX5_isContent_7 : decode cX5_isContent 7 = .ok (.iload_n 0, 1) := by decide +kernel
theorem dX5_isContent_8 : decode cX5_isContent 8 = .ok (.iload_n 3, 1) := by decide +kernel
theorem dX5_isContent_9 : decode cX5_isContent 9 = .ok (.iload_n 2, 1) := by decide +kernel
theorem dX5_isContent_10 : decode cX5_isContent 10 = .ok (.invokestatic 254, 3) := by decide +kernel
theorem dX5_isContent_13 : decode cX5_isContent 13 = .ok (.iload_n 0, 1) := by decide +kernel
theorem dX5_isContent_14 : decode cX5_isContent 14 = .ok (.iload_n 1, 1) := by decide +kernel
theorem dX5_isContent_15 : decode cX5_isContent 15 = .ok (.iload_n 2, 1) := by decide +kernel
theorem dX5_isContent_16 : decode cX5_isContent 16 = .ok (.invokestatic 254, 3) := by decide +kernel
theorem dX5_isContent_19 : decode cX5_isContent 19 = .ok (.if_icmp .le 5, 3) := by decide +kernel
theorem dX5_isContent_22 : decode cX5_isContent 22 = .ok (.iconst 0, 1) := by decide +kernel
theorem dX5_isContent_23 : decode cX5_isContent 23 = .ok (.ireturn, 1) := by decide +kernel
theorem dX5_isContent_24 : decode cX5_isContent 24 = .ok (.iinc 3 1, 3) := by decide +kernel
theorem dX5_isContent_27 : decode cX5_isContent 27 = .ok (.goto (-25), 3) := by decide +kernel
theorem dX5_isContent_30 : decode cX5_isContent 30 = .ok (.iconst 1, 1) := by decide +kernel
theorem dX5_isContent_31 : decode cX5_isContent 31 = .ok (.ireturn, 1) := by decide +kernel
set_option maxRecDepth 20000 in
theorem ggX5_isAsSeen_X2_hasPerson : GoodIn wsX5_isAsSeen wsX2_hasPerson := goodIn_r _ [9, 10, 11, 12, 13, 30, 31, 32, 33] (by decide +kernel) (by decide +kernel)
set_option maxRecDepth 20000 in
theorem gX5_isAsSeen_X2_hasPerson : GoodIn wsX5_isAsSeen (wsV RX5 127 RX2 yX2_hasPerson wsX2_hasPerson) := goodIn_app (goodIn_of _ (by decide +kernel)) ggX5_isAsSeen_X2_hasPerson
set_option maxRecDepth 20000 in
theorem ggX5_isAsSeen_X5_has : GoodIn wsX5_isAsSeen wsX5_has := goodIn_r _ [16] (by decide +kernel) (by decide +kernel)
set_option maxRecDepth 20000 in
theorem gX5_isAsSeen_X5_has : GoodIn wsX5_isAsSeen (va_wsS RX5 257 yX5_has wsX5_has) := goodIn_app (goodIn_of _ (by decide +kernel)) ggX5_isAsSeen_X5_has
theorem dX5_isAsSeen_0 : decode cX5_isAsSeen 0 = .ok (.iconst 0, 1) := by decide +kernel
theorem dX5_isAsSeen_1 : decode cX5_isAsSeen 1 = .ok (.istore_n 2, 1) := by decide +kernel
theorem dX5_isAsSeen_2 : decode cX5_isAsSeen 2 = .ok (.iload_n 2, 1) := by decide +kernel
theorem dX5_isAsSeen_3 : decode cX5_isAsSeen 3 = .ok (.aload_n 0, 1) := by decide +kernel
theorem dX5_isAsSeen_4 : decode cX5_isAsSeen 4 = .ok (.getfield 54, 3) := by decide +kernel
theorem dX5_isAsSeen_7 : decode cX5_isAsSeen 7 = .ok (.if_icmp .ge 49, 3) := by decide +kernel
theorem dX5_isAsSeen_10 : decode cX5_isAsSeen 10 = .ok (.iload_n 2, 1) := by decide +kernel
theorem dX5_isAsSeen_11 : decode cX5_isAsSeen 11 = .ok (.bipush 6, 2) := by decide +kernel
theorem dX5_isAsSeen_13 : decode cX5_isAsSeen 13 = .ok (.if_icmp .ge 43, 3) := by decide +kernel
theorem dX5_isAsSeen_16 : decode cX5_isAsSeen 16 = .ok (.aload_n 0, 1) := by decide +kernel
theorem dX5_isAsSeen_17 : decode cX5_isAsSeen 17 = .ok (.getfield 47, 3) := by decide +kernel
theorem dX5_isAsSeen_20 : decode cX5_isAsSeen 20 = .ok (.iload_n 2, 1) := by decide +kernel
theorem dX5_isAsSeen_21 : decode cX5_isAsSeen 21 = .ok (.iaload, 1) := by decide +kernel
theorem dX5_isAsSeen_22 : decode cX5_isAsSeen 22 = .ok (.istore_n 3, 1) := by decide +kernel
theorem dX5_isAsSeen_23 : decode cX5_isAsSeen 23 = .ok (.aload_n 0, 1) := by decide +kernel
theorem dX5_isAsSeen_24 : decode cX5_isAsSeen 24 = .ok (.getfield 19, 3) := by decide +kernel
theorem dX5_isAsSeen_27 : decode cX5_isAsSeen 27 = .ok (.iload_n 3, 1) := by decide +kernel
theorem dX5_isAsSeen_28 : decode cX5_isAsSeen 28 = .ok (.invokevirtual 127, 3) := by decide +kernel
theorem dX5_isAsSeen_31 : decode cX5_isAsSeen 31 = .ok (.ifCond .eq 19, 3) := by decide +kernel
theorem dX5_isAsSeen_34 : decode cX5_isAsSeen 34 = .ok (.iload_n 1, 1) := by decide +kernel
theorem dX5_isAsSeen_35 : decode cX5_isAsSeen 35 = .ok (.iload_n 3, 1) := by decide +kernel
theorem dX5_isAsSeen_36 : decode cX5_isAsSeen 36 = .ok (.invokestatic 257, 3) := by decide +kernel
theorem dX5_isAsSeen_39 : decode cX5_isAsSeen 39 = .ok (.aload_n 0, 1) := by decide +kernel
theorem dX5_isAsSeen_40 : decode cX5_isAsSeen 40 = .ok (.getfield 51, 3) := by decide +kernel
theorem dX5_isAsSeen_43 : decode cX5_isAsSeen 43 = .ok (.iload_n 2, 1) := by decide +kernel
theorem dX5_isAsSeen_44 : decode cX5_isAsSeen 44 = .ok (.baload, 1) := by decide +kernel
theorem dX5_isAsSeen_45 : decode cX5_isAsSeen 45 = .ok (.if_icmp .eq 5, 3) := by decide +kernel
theorem dX5_isAsSeen_48 : decode cX5_isAsSeen 48 = .ok (.iconst 0, 1) := by decide +kernel
theorem dX5_isAsSeen_49 : decode cX5_isAsSeen 49 = .ok (.ireturn, 1) := by decide +kernel
theorem dX5_isAsSeen_50 : decode cX5_isAsSeen 50 = .ok (.iinc 2 1, 3) := by decide +kernel
theorem dX5_isAsSeen_53 : decode cX5_isAsSeen 53 = .ok (.goto (-51), 3) := by decide +kernel
theorem dX5_isAsSeen_56 : decode cX5_isAsSeen 56 = .ok (.iconst 1, 1) := by decide +kernel
theorem dX5_isAsSeen_57 : decode cX5_isAsSeen 57 = .ok (.ireturn, 1) := by decide +kernel
set_option maxRecDepth 20000 in
theorem ggX5_waysToStay_X5_power : GoodIn wsX5_waysToStay wsX5_power := goodIn_r _ [5] (by decide +kernel) (by decide +kernel)
set_option maxRecDepth 20000 in
theorem gX5_waysToStay_X5_power : GoodIn wsX5_waysToStay (va_wsS RX5 239 yX5_power wsX5_power) := goodIn_app (goodIn_of _ (by decide +kernel)) ggX5_waysToStay_X5_power
set_option maxRecDepth 20000 in
theorem ggX5_waysToStay_X3_ringSize : GoodIn wsX5_waysToStay wsX3_ringSize := goodIn_r _ [10, 11, 12, 13, 14, 15, 16, 17, 18, 32, 33, 34, 35, 36, 37, 38, 39, 40] (by decide +kernel) (by decide +kernel)
set_option maxRecDepth 20000 in
theorem gX5_waysToStay_X3_ringSize : GoodIn wsX5_waysToStay (wsV RX5 161 RX3 yX3_ringSize wsX3_ringSize) := goodIn_app (goodIn_of _ (by decide +kernel)) ggX5_waysToStay_X3_ringSize
theorem dX5_waysToStay_0 : decode cX5_waysToStay 0 = .ok (.iload_n 1, 1) := by decide +kernel
theorem dX5_waysToStay_1 : decode cX5_waysToStay 1 = .ok (.iload_n 2, 1) := by decide +kernel
theorem dX5_waysToStay_2 : decode cX5_waysToStay 2 = .ok (.invokestatic 239, 3) := by decide +kernel
theorem dX5_waysToStay_5 : decode cX5_waysToStay 5 = .ok (.bipush 10, 2) := by decide +kernel
theorem dX5_waysToStay_7 : decode cX5_waysToStay 7 = .ok (.iload_n 1, 1) := by decide +kernel
theorem dX5_waysToStay_8 : decode cX5_waysToStay 8 = .ok (.isub, 1) := by decide +kernel
theorem dX5_waysToStay_9 : decode cX5_waysToStay 9 = .ok (.aload_n 0, 1) := by decide +kernel
theorem dX5_waysToStay_10 : decode cX5_waysToStay 10 = .ok (.getfield 28, 3) := by decide +kernel
theorem dX5_waysToStay_13 : decode cX5_waysToStay 13 = .ok (.invokevirtual 161, 3) := by decide +kernel
theorem dX5_waysToStay_16 : decode cX5_waysToStay 16 = .ok (.iload_n 2, 1) := by decide +kernel
theorem dX5_waysToStay_17 : decode cX5_waysToStay 17 = .ok (.isub, 1) := by decide +kernel
theorem dX5_waysToStay_18 : decode cX5_waysToStay 18 = .ok (.invokestatic 239, 3) := by decide +kernel
theorem dX5_waysToStay_21 : decode cX5_waysToStay 21 = .ok (.imul, 1) := by decide +kernel
theorem dX5_waysToStay_22 : decode cX5_waysToStay 22 = .ok (.ireturn, 1) := by decide +kernel
theorem dX5_commonDivisor_0 : decode cX5_commonDivisor 0 = .ok (.iload_n 0, 1) := by decide +kernel
theorem dX5_commonDivisor_1 : decode cX5_commonDivisor 1 = .ok (.istore_n 2, 1) := by decide +kernel
theorem dX5_commonDivisor_2 : decode cX5_commonDivisor 2 = .ok (.iload_n 1, 1) := by decide +kernel
theorem dX5_commonDivisor_3 : decode cX5_commonDivisor 3 = .ok (.istore_n 3, 1) := by decide +kernel
theorem dX5_commonDivisor_4 : decode cX5_commonDivisor 4 = .ok (.iconst 0, 1) := by decide +kernel
theorem dX5_commonDivisor_5 : decode cX5_commonDivisor 5 = .ok (.istore 4, 2) := by decide +kernel
theorem dX5_commonDivisor_7 : decode cX5_commonDivisor 7 = .ok (.iload 4, 2) := by decide +kernel
theorem dX5_commonDivisor_9 : decode cX5_commonDivisor 9 = .ok (.bipush 64, 2) := by decide +kernel
theorem dX5_commonDivisor_11 : decode cX5_commonDivisor 11 = .ok (.if_icmp .ge 23, 3) := by decide +kernel
theorem dX5_commonDivisor_14 : decode cX5_commonDivisor 14 = .ok (.iload_n 3, 1) := by decide +kernel
theorem dX5_commonDivisor_15 : decode cX5_commonDivisor 15 = .ok (.ifCond .eq 19, 3) := by decide +kernel
theorem dX5_commonDivisor_18 : decode cX5_commonDivisor 18 = .ok (.iload_n 2, 1) := by decide +kernel
theorem dX5_commonDivisor_19 : decode cX5_commonDivisor 19 = .ok (.iload_n 3, 1) := by decide +kernel
theorem dX5_commonDivisor_20 : decode cX5_commonDivisor 20 = .ok (.irem, 1) := by decide +kernel
theorem dX5_commonDivisor_21 : decode cX5_commonDivisor 21 = .ok (.istore 5, 2) := by decide +kernel
theorem dX5_commonDivisor_23 : decode cX5_commonDivisor 23 = .ok (.iload_n 3, 1) := by decide +kernel
theorem dX5_commonDivisor_24 : decode cX5_commonDivisor 24 = .ok (.istore_n 2, 1) := by decide +kernel
theorem dX5_commonDivisor_25 : decode cX5_commonDivisor 25 = .ok (.iload 5, 2) := by decide +kernel
theorem dX5_commonDivisor_27 : decode cX5_commonDivisor 27 = .ok (.istore_n 3, 1) := by decide +kernel
theorem dX5_commonDivisor_28 : decode cX5_commonDivisor 28 = .ok (.iinc 4 1, 3) := by decide +kernel
theorem dX5_commonDivisor_31 : decode cX5_commonDivisor 31 = .ok (.goto (-24), 3) := by decide +kernel
theorem dX5_commonDivisor_34 : decode cX5_commonDivisor 34 = .ok (.iload_n 2, 1) := by decide +kernel
theorem dX5_commonDivisor_35 : decode cX5_commonDivisor 35 = .ok (.ireturn, 1) := by decide +kernel
theorem dX5_has_0 : decode cX5_has 0 = .ok (.iload_n 0, 1) := by decide +kernel
theorem dX5_has_1 : decode cX5_has 1 = .ok (.iload_n 1, 1) := by decide +kernel
theorem dX5_has_2 : decode cX5_has 2 = .ok (.ishr, 1) := by decide +kernel
theorem dX5_has_3 : decode cX5_has 3 = .ok (.iconst 1, 1) := by decide +kernel
theorem dX5_has_4 : decode cX5_has 4 = .ok (.iand, 1) := by decide +kernel
theorem dX5_has_5 : decode cX5_has 5 = .ok (.ifCond .eq 7, 3) := by decide +kernel
theorem dX5_has_8 : decode cX5_has 8 = .ok (.iconst 1, 1) := by decide +kernel
theorem dX5_has_9 : decode cX5_has 9 = .ok (.goto 4, 3) := by decide +kernel
theorem dX5_has_12 : decode cX5_has 12 = .ok (.iconst 0, 1) := by decide +kernel
theorem dX5_has_13 : decode cX5_has 13 = .ok (.ireturn, 1) := by decide +kernel
