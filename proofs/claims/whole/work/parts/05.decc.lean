theorem dX6_init_0 : decode cX6_init 0 = .ok (.aload_n 0, 1) := by decide +kernel
theorem dX6_init_1 : decode cX6_init 1 = .ok (.invokespecial 1, 3) := by decide +kernel
theorem dX6_init_4 : decode cX6_init 4 = .ok (.aload_n 0, 1) := by decide +kernel
theorem dX6_init_5 : decode cX6_init 5 = .ok (.bipush 64, 2) := by decide +kernel
theorem dX6_init_7 : decode cX6_init 7 = .ok (.newarray .int, 2) := by decide +kernel
theorem dX6_init_9 : decode cX6_init 9 = .ok (.putfield 7, 3) := by decide +kernel
theorem dX6_init_12 : decode cX6_init 12 = .ok (.aload_n 0, 1) := by decide +kernel
theorem dX6_init_13 : decode cX6_init 13 = .ok (.bipush 36, 2) := by decide +kernel
theorem dX6_init_15 : decode cX6_init 15 = .ok (.newarray .int, 2) := by decide +kernel
theorem dX6_init_17 : decode cX6_init 17 = .ok (.putfield 13, 3) := by decide +kernel
theorem dX6_init_20 : decode cX6_init 20 = .ok (.aload_n 0, 1) := by decide +kernel
theorem dX6_init_21 : decode cX6_init 21 = .ok (.bipush 12, 2) := by decide +kernel
theorem dX6_init_23 : decode cX6_init 23 = .ok (.newarray .int, 2) := by decide +kernel
theorem dX6_init_25 : decode cX6_init 25 = .ok (.putfield 16, 3) := by decide +kernel
theorem dX6_init_28 : decode cX6_init 28 = .ok (.aload_n 0, 1) := by decide +kernel
theorem dX6_init_29 : decode cX6_init 29 = .ok (.bipush 36, 2) := by decide +kernel
theorem dX6_init_31 : decode cX6_init 31 = .ok (.newarray .int, 2) := by decide +kernel
theorem dX6_init_33 : decode cX6_init 33 = .ok (.putfield 19, 3) := by decide +kernel
theorem dX6_init_36 : decode cX6_init 36 = .ok (.aload_n 0, 1) := by decide +kernel
theorem dX6_init_37 : decode cX6_init 37 = .ok (.bipush 12, 2) := by decide +kernel
theorem dX6_init_39 : decode cX6_init 39 = .ok (.newarray .int, 2) := by decide +kernel
theorem dX6_init_41 : decode cX6_init 41 = .ok (.putfield 22, 3) := by decide +kernel
theorem dX6_init_44 : decode cX6_init 44 = .ok (.aload_n 0, 1) := by decide +kernel
theorem dX6_init_45 : decode cX6_init 45 = .ok (.bipush 21, 2) := by decide +kernel
theorem dX6_init_47 : decode cX6_init 47 = .ok (.newarray .int, 2) := by decide +kernel
theorem dX6_init_49 : decode cX6_init 49 = .ok (.putfield 25, 3) := by decide +kernel
theorem dX6_init_52 : decode cX6_init 52 = .ok (.aload_n 0, 1) := by decide +kernel
theorem dX6_init_53 : decode cX6_init 53 = .ok (.bipush 21, 2) := by decide +kernel
theorem dX6_init_55 : decode cX6_init 55 = .ok (.newarray .int, 2) := by decide +kernel
theorem dX6_init_57 : decode cX6_init 57 = .ok (.putfield 28, 3) := by decide +kernel
theorem dX6_init_60 : decode cX6_init 60 = .ok (.aload_n 0, 1) := by decide +kernel
theorem dX6_init_61 : decode cX6_init 61 = .ok (.sipush 252, 3) := by decide +kernel
theorem dX6_init_64 : decode cX6_init 64 = .ok (.newarray .int, 2) := by decide +kernel
theorem dX6_init_66 : decode cX6_init 66 = .ok (.putfield 31, 3) := by decide +kernel
theorem dX6_init_69 : decode cX6_init 69 = .ok (.aload_n 0, 1) := by decide +kernel
theorem dX6_init_70 : decode cX6_init 70 = .ok (.bipush 42, 2) := by decide +kernel
theorem dX6_init_72 : decode cX6_init 72 = .ok (.newarray .int, 2) := by decide +kernel
theorem dX6_init_74 : decode cX6_init 74 = .ok (.putfield 34, 3) := by decide +kernel
theorem dX6_init_77 : decode cX6_init 77 = .ok (.aload_n 0, 1) := by decide +kernel
theorem dX6_init_78 : decode cX6_init 78 = .ok (.iconst 2, 1) := by decide +kernel
theorem dX6_init_79 : decode cX6_init 79 = .ok (.newarray .boolean, 2) := by decide +kernel
theorem dX6_init_81 : decode cX6_init 81 = .ok (.putfield 37, 3) := by decide +kernel
theorem dX6_init_84 : decode cX6_init 84 = .ok (.aload_n 0, 1) := by decide +kernel
theorem dX6_init_85 : decode cX6_init 85 = .ok (.bipush 6, 2) := by decide +kernel
theorem dX6_init_87 : decode cX6_init 87 = .ok (.newarray .int, 2) := by decide +kernel
theorem dX6_init_89 : decode cX6_init 89 = .ok (.putfield 41, 3) := by decide +kernel
theorem dX6_init_92 : decode cX6_init 92 = .ok (.aload_n 0, 1) := by decide +kernel
theorem dX6_init_93 : decode cX6_init 93 = .ok (.bipush 6, 2) := by decide +kernel
theorem dX6_init_95 : decode cX6_init 95 = .ok (.newarray .boolean, 2) := by decide +kernel
theorem dX6_init_97 : decode cX6_init 97 = .ok (.putfield 44, 3) := by decide +kernel
theorem dX6_init_100 : decode cX6_init 100 = .ok (.return_, 1) := by decide +kernel
theorem dX6_in_0 : decode cX6_in 0 = .ok (.lload_n 0, 1) := by decide +kernel
theorem dX6_in_1 : decode cX6_in 1 = .ok (.lload_n 2, 1) := by decide +kernel
theorem dX6_in_2 : decode cX6_in 2 = .ok (.lcmp, 1) := by decide +kernel
theorem dX6_in_3 : decode cX6_in 3 = .ok (.ifCond .lt 14, 3) := by decide +kernel
theorem dX6_in_6 : decode cX6_in 6 = .ok (.lload_n 0, 1) := by decide +kernel
theorem dX6_in_7 : decode cX6_in 7 = .ok (.lload 4, 2) := by decide +kernel
theorem dX6_in_9 : decode cX6_in 9 = .ok (.lcmp, 1) := by decide +kernel
theorem dX6_in_10 : decode cX6_in 10 = .ok (.ifCond .gt 7, 3) := by decide +kernel
theorem dX6_in_13 : decode cX6_in 13 = .ok (.iconst 1, 1) := by decide +kernel
theorem dX6_in_14 : decode cX6_in 14 = .ok (.goto 4, 3) := by decide +kernel
theorem dX6_in_17 : decode cX6_in 17 = .ok (.iconst 0, 1) := by decide +kernel
theorem dX6_in_18 : decode cX6_in 18 = .ok (.ireturn, 1) := by decide +kernel
theorem dX6_has_0 : decode cX6_has 0 = .ok (.iload_n 0, 1) := by decide +kernel
theorem dX6_has_1 : decode cX6_has 1 = .ok (.iload_n 1, 1) := by decide +kernel
theorem dX6_has_2 : decode cX6_has 2 = .ok (.ishr, 1) := by decide +kernel
theorem dX6_has_3 : decode cX6_has 3 = .ok (.iconst 1, 1) := by decide +kernel
theorem dX6_has_4 : decode cX6_has 4 = .ok (.iand, 1) := by decide +kernel
theorem dX6_has_5 : decode cX6_has 5 = .ok (.iconst 1, 1) := by decide +kernel
theorem dX6_has_6 : decode cX6_has 6 = .ok (.if_icmp .ne 7, 3) := by decide +kernel
theorem dX6_has_9 : decode cX6_has 9 = .ok (.iconst 1, 1) := by decide +kernel
theorem dX6_has_10 : decode cX6_has 10 = .ok (.goto 4, 3) := by decide +kernel
theorem dX6_has_13 : decode cX6_has 13 = .ok (.iconst 0, 1) := by decide +kernel
theorem dX6_has_14 : decode cX6_has 14 = .ok (.ireturn, 1) := by decide +kernel
theorem dX6_many_0 : decode cX6_many 0 = .ok (.iconst 0, 1) := by decide +kernel
theorem dX6_many_1 : decode cX6_many 1 = .ok (.istore_n 1, 1) := by decide +kernel
theorem dX6_many_2 : decode cX6_many 2 = .ok (.iconst 0, 1) := by decide +kernel
theorem dX6_many_3 : decode cX6_many 3 = .ok (.istore_n 2, 1) := by decide +kernel
theorem dX6_many_4 : decode cX6_many 4 = .ok (.iload_n 2, 1) := by decide +kernel
theorem dX6_many_5 : decode cX6_many 5 = .ok (.bipush 6, 2) := by decide +kernel
theorem dX6_many_7 : decode cX6_many 7 = .ok (.if_icmp .ge 17, 3) := by decide +kernel
theorem dX6_many_10 : decode cX6_many 10 = .ok (.iload_n 1, 1) := by decide +kernel
theorem dX6_many_11 : decode cX6_many 11 = .ok (.iload_n 0, 1) := by decide +kernel
theorem dX6_many_12 : decode cX6_many 12 = .ok (.iload_n 2, 1) := by decide +kernel
theorem dX6_many_13 : decode cX6_many 13 = .ok (.ishr, 1) := by decide +kernel
theorem dX6_many_14 : decode cX6_many 14 = .ok (.iconst 1, 1) := by decide +kernel
theorem dX6_many_15 : decode cX6_many 15 = .ok (.iand, 1) := by decide +kernel
theorem dX6_many_16 : decode cX6_many 16 = .ok (.iadd, 1) := by decide +kernel
theorem dX6_many_17 : decode cX6_many 17 = .ok (.istore_n 1, 1) := by decide +kernel
theorem dX6_many_18 : decode cX6_many 18 = .ok (.iinc 2 1, 3) := by decide +kernel
theorem dX6_many_21 : decode cX6_many 21 = .ok (.goto (-17), 3) := by decide +kernel
theorem dX6_many_24 : decode cX6_many 24 = .ok (.iload_n 1, 1) := by decide +kernel
theorem dX6_many_25 : decode cX6_many 25 = .ok (.ireturn, 1) := by decide +kernel
set_option maxRecDepth 20000 in
theorem ggX6_noOne_X6_in : GoodIn wsX6_noOne wsX6_in := goodIn_r _ [5] (by decide +kernel) (by decide +kernel)
set_option maxRecDepth 20000 in
theorem gX6_noOne_X6_in : GoodIn wsX6_noOne (va_wsS RX6 54 yX6_in wsX6_in) := goodIn_app (goodIn_of _ (by decide +kernel)) ggX6_noOne_X6_in
theorem dX6_noOne_0 : decode cX6_noOne 0 = .ok (.iload_n 1, 1) := by decide +kernel
theorem dX6_noOne_1 : decode cX6_noOne 1 = .ok (.i2l, 1) := by decide +kernel
theorem dX6_noOne_2 : decode cX6_noOne 2 = .ok (.lconst 0, 1) := by decide +kernel
theorem dX6_noOne_3 : decode cX6_noOne 3 = .ok (.aload_n 0, 1) := by decide +kernel
theorem dX6_noOne_4 : decode cX6_noOne 4 = .ok (.getfield 51, 3) := by decide +kernel
theorem dX6_noOne_7 : decode cX6_noOne 7 = .ok (.iconst 1, 1) := by decide +kernel
theorem dX6_noOne_8 : decode cX6_noOne 8 = .ok (.isub, 1) := by decide +kernel
theorem dX6_noOne_9 : decode cX6_noOne 9 = .ok (.i2l, 1) := by decide +kernel
theorem dX6_noOne_10 : decode cX6_noOne 10 = .ok (.invokestatic 54, 3) := by decide +kernel
theorem dX6_noOne_13 : decode cX6_noOne 13 = .ok (.ifCond .ne 7, 3) := by decide +kernel
theorem dX6_noOne_16 : decode cX6_noOne 16 = .ok (.iconst 1, 1) := by decide +kernel
theorem dX6_noOne_17 : decode cX6_noOne 17 = .ok (.goto 4, 3) := by decide +kernel
theorem dX6_noOne_20 : decode cX6_noOne 20 = .ok (.iconst 0, 1) := by decide +kernel
theorem dX6_noOne_21 : decode cX6_noOne 21 = .ok (.ireturn, 1) := by decide +kernel
set_option maxRecDepth 20000 in
theorem ggX6_noTune_X6_in : GoodIn wsX6_noTune wsX6_in := goodIn_r _ [5] (by decide +kernel) (by decide +kernel)
set_option maxRecDepth 20000 in
theorem gX6_noTune_X6_in : GoodIn wsX6_noTune (va_wsS RX6 54 yX6_in wsX6_in) := goodIn_app (goodIn_of _ (by decide +kernel)) ggX6_noTune_X6_in
theorem dX6_noTune_0 : decode cX6_noTune 0 = .ok (.iload_n 1, 1) := by decide +kernel
theorem dX6_noTune_1 : decode cX6_noTune 1 = .ok (.i2l, 1) := by decide +kernel
theorem dX6_noTune_2 : decode cX6_noTune 2 = .ok (.lconst 0, 1) := by decide +kernel
theorem dX6_noTune_3 : decode cX6_noTune 3 = .ok (.aload_n 0, 1) := by decide +kernel
theorem dX6_noTune_4 : decode cX6_noTune 4 = .ok (.getfield 58, 3) := by decide +kernel
theorem dX6_noTune_7 : decode cX6_noTune 7 = .ok (.iconst 1, 1) := by decide +kernel
theorem dX6_noTune_8 : decode cX6_noTune 8 = .ok (.isub, 1) := by decide +kernel
theorem dX6_noTune_9 : decode cX6_noTune 9 = .ok (.i2l, 1) := by decide +kernel
theorem dX6_noTune_10 : decode cX6_noTune 10 = .ok (.invokestatic 54, 3) := by decide +kernel
theorem dX6_noTune_13 : decode cX6_noTune 13 = .ok (.ifCond .ne 7, 3) := by decide +kernel
theorem dX6_noTune_16 : decode cX6_noTune 16 = .ok (.iconst 1, 1) := by decide +kernel
theorem dX6_noTune_17 : decode cX6_noTune 17 = .ok (.goto 4, 3) := by decide +kernel
theorem dX6_noTune_20 : decode cX6_noTune 20 = .ok (.iconst 0, 1) := by decide +kernel
theorem dX6_noTune_21 : decode cX6_noTune 21 = .ok (.ireturn, 1) := by decide +kernel
set_option maxRecDepth 20000 in
theorem ggX6_write_X6_in : GoodIn wsX6_write wsX6_in := goodIn_r _ [8] (by decide +kernel) (by decide +kernel)
set_option maxRecDepth 20000 in
theorem gX6_write_X6_in : GoodIn wsX6_write (va_wsS RX6 54 yX6_in wsX6_in) := goodIn_app (goodIn_of _ (by decide +kernel)) ggX6_write_X6_in
theorem dX6_write_0 : decode cX6_write 0 = .ok (.aload_n 0, 1) := by decide +kernel
theorem dX6_write_1 : decode cX6_write 1 = .ok (.iconst 0, 1) := by decide +kernel
theorem dX6_write_2 : decode cX6_write 2 = .ok (.putfield 47, 3) := by decide +kernel
theorem dX6_write_5 : decode cX6_write 5 = .ok (.iload_n 1, 1) := by decide +kernel
theorem dX6_write_6 : decode cX6_write 6 = .ok (.i2l, 1) := by decide +kernel
theorem dX6_write_7 : decode cX6_write 7 = .ok (.lconst 0, 1) := by decide +kernel
theorem dX6_write_8 : decode cX6_write 8 = .ok (.ldc2_w 61, 3) := by decide +kernel
theorem dX6_write_11 : decode cX6_write 11 = .ok (.invokestatic 54, 3) := by decide +kernel
theorem dX6_write_14 : decode cX6_write 14 = .ok (.ifCond .ne 6, 3) := by decide +kernel
theorem dX6_write_17 : decode cX6_write 17 = .ok (.bipush (-2), 2) := by decide +kernel
theorem dX6_write_19 : decode cX6_write 19 = .ok (.ireturn, 1) := by decide +kernel
theorem dX6_write_20 : decode cX6_write 20 = .ok (.aload_n 0, 1) := by decide +kernel
theorem dX6_write_21 : decode cX6_write 21 = .ok (.getfield 63, 3) := by decide +kernel
theorem dX6_write_24 : decode cX6_write 24 = .ok (.bipush 64, 2) := by decide +kernel
theorem dX6_write_26 : decode cX6_write 26 = .ok (.if_icmp .ne 6, 3) := by decide +kernel
theorem dX6_write_29 : decode cX6_write 29 = .ok (.bipush (-4), 2) := by decide +kernel
theorem dX6_write_31 : decode cX6_write 31 = .ok (.ireturn, 1) := by decide +kernel
theorem dX6_write_32 : decode cX6_write 32 = .ok (.aload_n 0, 1) := by decide +kernel
theorem dX6_write_33 : decode cX6_write 33 = .ok (.getfield 7, 3) := by decide +kernel
theorem dX6_write_36 : decode cX6_write 36 = .ok (.aload_n 0, 1) := by decide +kernel
theorem dX6_write_37 : decode cX6_write 37 = .ok (.getfield 63, 3) := by decide +kernel
theorem dX6_write_40 : decode cX6_write 40 = .ok (.iload_n 1, 1) := by decide +kernel
theorem dX6_write_41 : decode cX6_write 41 = .ok (.iastore, 1) := by decide +kernel
theorem dX6_write_42 : decode cX6_write 42 = .ok (.aload_n 0, 1) := by decide +kernel
theorem dX6_write_43 : decode cX6_write 43 = .ok (.dup, 1) := by decide +kernel
theorem dX6_write_44 : decode cX6_write 44 = .ok (.getfield 63, 3) := by decide +kernel
theorem dX6_write_47 : decode cX6_write 47 = .ok (.iconst 1, 1) := by decide +kernel
theorem dX6_write_48 : decode cX6_write 48 = .ok (.iadd, 1) := by decide +kernel
theorem dX6_write_49 : decode cX6_write 49 = .ok (.putfield 63, 3) := by decide +kernel
theorem dX6_write_52 : decode cX6_write 52 = .ok (.aload_n 0, 1) := by decide +kernel
theorem dX6_write_53 : decode cX6_write 53 = .ok (.getfield 63, 3) := by decide +kernel
theorem dX6_write_56 : decode cX6_write 56 = .ok (.ireturn, 1) := by decide +kernel
theorem dX6_wipe_0 : decode cX6_wipe 0 = .ok (.aload_n 0, 1) := by decide +kernel
theorem dX6_wipe_1 : decode cX6_wipe 1 = .ok (.iconst 0, 1) := by decide +kernel
theorem dX6_wipe_2 : decode cX6_wipe 2 = .ok (.putfield 47, 3) := by decide +kernel
theorem dX6_wipe_5 : decode cX6_wipe 5 = .ok (.aload_n 0, 1) := by decide +kernel
theorem dX6_wipe_6 : decode cX6_wipe 6 = .ok (.getfield 63, 3) := by decide +kernel
theorem dX6_wipe_9 : decode cX6_wipe 9 = .ok (.istore_n 1, 1) := by decide +kernel
theorem dX6_wipe_10 : decode cX6_wipe 10 = .ok (.aload_n 0, 1) := by decide +kernel
theorem dX6_wipe_11 : decode cX6_wipe 11 = .ok (.iconst 0, 1) := by decide +kernel
theorem dX6_wipe_12 : decode cX6_wipe 12 = .ok (.putfield 63, 3) := by decide +kernel
theorem dX6_wipe_15 : decode cX6_wipe 15 = .ok (.iload_n 1, 1) := by decide +kernel
theorem dX6_wipe_16 : decode cX6_wipe 16 = .ok (.ireturn, 1) := by decide +kernel
set_option maxRecDepth 20000 in
theorem ggX6_figure_X6_in : GoodIn wsX6_figure wsX6_in := goodIn_r _ [7] (by decide +kernel) (by decide +kernel)
set_option maxRecDepth 20000 in
theorem gX6_figure_X6_in : GoodIn wsX6_figure (va_wsS RX6 54 yX6_in wsX6_in) := goodIn_app (goodIn_of _ (by decide +kernel)) ggX6_figure_X6_in
theorem dX6_figure_0 : decode cX6_figure 0 = .ok (.aload_n 0, 1) := by decide +kernel
theorem dX6_figure_1 : decode cX6_figure 1 = .ok (.getfield 66, 3) := by decide +kernel
theorem dX6_figure_4 : decode cX6_figure 4 = .ok (.aload_n 0, 1) := by decide +kernel
theorem dX6_figure_5 : decode cX6_figure 5 = .ok (.getfield 63, 3) := by decide +kernel
theorem dX6_figure_8 : decode cX6_figure 8 = .ok (.if_icmp .eq 26, 3) := by decide +kernel
theorem dX6_figure_11 : decode cX6_figure 11 = .ok (.aload_n 0, 1) := by decide +kernel
theorem dX6_figure_12 : decode cX6_figure 12 = .ok (.getfield 7, 3) := by decide +kernel
theorem dX6_figure_15 : decode cX6_figure 15 = .ok (.aload_n 0, 1) := by decide +kernel
theorem dX6_figure_16 : decode cX6_figure 16 = .ok (.getfield 66, 3) := by decide +kernel
theorem dX6_figure_19 : decode cX6_figure 19 = .ok (.iaload, 1) := by decide +kernel
theorem dX6_figure_20 : decode cX6_figure 20 = .ok (.bipush 48, 2) := by decide +kernel
theorem dX6_figure_22 : decode cX6_figure 22 = .ok (.isub, 1) := by decide +kernel
theorem dX6_figure_23 : decode cX6_figure 23 = .ok (.i2l, 1) := by decide +kernel
theorem dX6_figure_24 : decode cX6_figure 24 = .ok (.iload_n 1, 1) := by decide +kernel
theorem dX6_figure_25 : decode cX6_figure 25 = .ok (.i2l, 1) := by decide +kernel
theorem dX6_figure_26 : decode cX6_figure 26 = .ok (.iload_n 2, 1) := by decide +kernel
theorem dX6_figure_27 : decode cX6_figure 27 = .ok (.i2l, 1) := by decide +kernel
theorem dX6_figure_28 : decode cX6_figure 28 = .ok (.invokestatic 54, 3) := by decide +kernel
theorem dX6_figure_31 : decode cX6_figure 31 = .ok (.ifCond .ne 6, 3) := by decide +kernel
theorem dX6_figure_34 : decode cX6_figure 34 = .ok (.bipush (-9), 2) := by decide +kernel
theorem dX6_figure_36 : decode cX6_figure 36 = .ok (.ireturn, 1) := by decide +kernel
theorem dX6_figure_37 : decode cX6_figure 37 = .ok (.aload_n 0, 1) := by decide +kernel
theorem dX6_figure_38 : decode cX6_figure 38 = .ok (.dup, 1) := by decide +kernel
theorem dX6_figure_39 : decode cX6_figure 39 = .ok (.getfield 66, 3) := by decide +kernel
theorem dX6_figure_42 : decode cX6_figure 42 = .ok (.iconst 1, 1) := by decide +kernel
theorem dX6_figure_43 : decode cX6_figure 43 = .ok (.iadd, 1) := by decide +kernel
theorem dX6_figure_44 : decode cX6_figure 44 = .ok (.putfield 66, 3) := by decide +kernel
theorem dX6_figure_47 : decode cX6_figure 47 = .ok (.aload_n 0, 1) := by decide +kernel
theorem dX6_figure_48 : decode cX6_figure 48 = .ok (.getfield 7, 3) := by decide +kernel
theorem dX6_figure_51 : decode cX6_figure 51 = .ok (.aload_n 0, 1) := by decide +kernel
theorem dX6_figure_52 : decode cX6_figure 52 = .ok (.getfield 66, 3) := by decide +kernel
theorem dX6_figure_55 : decode cX6_figure 55 = .ok (.iconst 1, 1) := by decide +kernel
theorem dX6_figure_56 : decode cX6_figure 56 = .ok (.isub, 1) := by decide +kernel
theorem dX6_figure_57 : decode cX6_figure 57 = .ok (.iaload, 1) := by decide +kernel
theorem dX6_figure_58 : decode cX6_figure 58 = .ok (.bipush 48, 2) := by decide +kernel
theorem dX6_figure_60 : decode cX6_figure 60 = .ok (.isub, 1) := by decide +kernel
theorem dX6_figure_61 : decode cX6_figure 61 = .ok (.ireturn, 1) := by decide +kernel
theorem dX6_mostOf_0 : decode cX6_mostOf 0 = .ok (.iload_n 0, 1) := by decide +kernel
theorem dX6_mostOf_1 : decode cX6_mostOf 1 = .ok (.ifCond .eq 8, 3) := by decide +kernel
theorem dX6_mostOf_4 : decode cX6_mostOf 4 = .ok (.iload_n 0, 1) := by decide +kernel
theorem dX6_mostOf_5 : decode cX6_mostOf 5 = .ok (.iconst 3, 1) := by decide +kernel
theorem dX6_mostOf_6 : decode cX6_mostOf 6 = .ok (.if_icmp .ne 7, 3) := by decide +kernel
theorem dX6_mostOf_9 : decode cX6_mostOf 9 = .ok (.iconst 3, 1) := by decide +kernel
theorem dX6_mostOf_10 : decode cX6_mostOf 10 = .ok (.goto 23, 3) := by decide +kernel
theorem dX6_mostOf_13 : decode cX6_mostOf 13 = .ok (.iload_n 0, 1) := by decide +kernel
theorem dX6_mostOf_14 : decode cX6_mostOf 14 = .ok (.iconst 4, 1) := by decide +kernel
theorem dX6_mostOf_15 : decode cX6_mostOf 15 = .ok (.if_icmp .ne 7, 3) := by decide +kernel
theorem dX6_mostOf_18 : decode cX6_mostOf 18 = .ok (.iconst 2, 1) := by decide +kernel
theorem dX6_mostOf_19 : decode cX6_mostOf 19 = .ok (.goto 14, 3) := by decide +kernel
theorem dX6_mostOf_22 : decode cX6_mostOf 22 = .ok (.iload_n 0, 1) := by decide +kernel
theorem dX6_mostOf_23 : decode cX6_mostOf 23 = .ok (.iconst 5, 1) := by decide +kernel
theorem dX6_mostOf_24 : decode cX6_mostOf 24 = .ok (.if_icmp .ne 7, 3) := by decide +kernel
theorem dX6_mostOf_27 : decode cX6_mostOf 27 = .ok (.iconst 5, 1) := by decide +kernel
theorem dX6_mostOf_28 : decode cX6_mostOf 28 = .ok (.goto 5, 3) := by decide +kernel
theorem dX6_mostOf_31 : decode cX6_mostOf 31 = .ok (.bipush 9, 2) := by decide +kernel
theorem dX6_mostOf_33 : decode cX6_mostOf 33 = .ok (.ireturn, 1) := by decide +kernel
set_option maxRecDepth 20000 in
theorem ggX6_readPerson_X6_mostOf : GoodIn wsX6_readPerson wsX6_mostOf := goodIn_r _ [6] (by decide +kernel) (by decide +kernel)
set_option maxRecDepth 20000 in
theorem gX6_readPerson_X6_mostOf : GoodIn wsX6_readPerson (va_wsS RX6 69 yX6_mostOf wsX6_mostOf) := goodIn_app (goodIn_of _ (by decide +kernel)) ggX6_readPerson_X6_mostOf
set_option maxRecDepth 20000 in
theorem ggX6_readPerson_X6_figure : GoodIn wsX6_readPerson wsX6_figure := goodIn_r _ [10, 11, 12, 13, 14, 15, 5, 16, 17, 18, 19, 20, 21, 22, 23, 24, 25, 26, 27, 28, 29, 30, 31, 32, 33, 34, 35, 36, 37, 38, 39] (by decide +kernel) (by decide +kernel)
set_option maxRecDepth 20000 in
theorem gX6_readPerson_X6_figure : GoodIn wsX6_readPerson (wsV RX6 73 RX6 yX6_figure wsX6_figure) := goodIn_app (goodIn_of _ (by decide +kernel)) ggX6_readPerson_X6_figure
theorem dX6_readPerson_0 : decode cX6_readPerson 0 = .ok (.iconst 0, 1) := by decide +kernel
theorem dX6_readPerson_1 : decode cX6_readPerson 1 = .ok (.istore_n 1, 1) := by decide +kernel
theorem dX6_readPerson_2 : decode cX6_readPerson 2 = .ok (.iload_n 1, 1) := by decide +kernel
theorem dX6_readPerson_3 : decode cX6_readPerson 3 = .ok (.bipush 6, 2) := by decide +kernel
theorem dX6_readPerson_5 : decode cX6_readPerson 5 = .ok (.if_icmp .ge 42, 3) := by decide +kernel
theorem dX6_readPerson_8 : decode cX6_readPerson 8 = .ok (.aload_n 0, 1) := by decide +kernel
theorem dX6_readPerson_9 : decode cX6_readPerson 9 = .ok (.iconst 0, 1) := by decide +kernel
theorem dX6_readPerson_10 : decode cX6_readPerson 10 = .ok (.iload_n 1, 1) := by decide +kernel
theorem dX6_readPerson_11 : decode cX6_readPerson 11 = .ok (.invokestatic 69, 3) := by decide +kernel
theorem dX6_readPerson_14 : decode cX6_readPerson 14 = .ok (.invokevirtual 73, 3) := by decide +kernel
theorem dX6_readPerson_17 : decode cX6_readPerson 17 = .ok (.istore_n 2, 1) := by decide +kernel
theorem dX6_readPerson_18 : decode cX6_readPerson 18 = .ok (.iload_n 2, 1) := by decide +kernel
theorem dX6_readPerson_19 : decode cX6_readPerson 19 = .ok (.bipush (-9), 2) := by decide +kernel
theorem dX6_readPerson_21 : decode cX6_readPerson 21 = .ok (.if_icmp .ne 5, 3) := by decide +kernel
theorem dX6_readPerson_24 : decode cX6_readPerson 24 = .ok (.iconst 0, 1) := by decide +kernel
theorem dX6_readPerson_25 : decode cX6_readPerson 25 = .ok (.ireturn, 1) := by decide +kernel
theorem dX6_readPerson_26 : decode cX6_readPerson 26 = .ok (.aload_n 0, 1) := by decide +kernel
theorem dX6_readPerson_27 : decode cX6_readPerson 27 = .ok (.getfield 19, 3) := by decide +kernel
theorem dX6_readPerson_30 : decode cX6_readPerson 30 = .ok (.bipush 6, 2) := by decide +kernel
theorem dX6_readPerson_32 : decode cX6_readPerson 32 = .ok (.aload_n 0, 1) := by decide +kernel
theorem dX6_readPerson_33 : decode cX6_readPerson 33 = .ok (.getfield 77, 3) := by decide +kernel
theorem dX6_readPerson_36 : decode cX6_readPerson 36 = .ok (.imul, 1) := by decide +kernel
theorem dX6_readPerson_37 : decode cX6_readPerson 37 = .ok (.iload_n 1, 1) := by decide +kernel
theorem dX6_readPerson_38 : decode cX6_readPerson 38 = .ok (.iadd, 1) := by decide +kernel
theorem dX6_readPerson_39 : decode cX6_readPerson 39 = .ok (.iload_n 2, 1) := by decide +kernel
theorem dX6_readPerson_40 : decode cX6_readPerson 40 = .ok (.iastore, 1) := by decide +kernel
theorem dX6_readPerson_41 : decode cX6_readPerson 41 = .ok (.iinc 1 1, 3) := by decide +kernel
theorem dX6_readPerson_44 : decode cX6_readPerson 44 = .ok (.goto (-42), 3) := by decide +kernel
theorem dX6_readPerson_47 : decode cX6_readPerson 47 = .ok (.aload_n 0, 1) := by decide +kernel
theorem dX6_readPerson_48 : decode cX6_readPerson 48 = .ok (.dup, 1) := by decide +kernel
theorem dX6_readPerson_49 : decode cX6_readPerson 49 = .ok (.getfield 77, 3) := by decide +kernel
theorem dX6_readPerson_52 : decode cX6_readPerson 52 = .ok (.iconst 1, 1) := by decide +kernel
theorem dX6_readPerson_53 : decode cX6_readPerson 53 = .ok (.iadd, 1) := by decide +kernel
theorem dX6_readPerson_54 : decode cX6_readPerson 54 = .ok (.putfield 77, 3) := by decide +kernel
theorem dX6_readPerson_57 : decode cX6_readPerson 57 = .ok (.iconst 1, 1) := by decide +kernel
theorem dX6_readPerson_58 : decode cX6_readPerson 58 = .ok (.ireturn, 1) := by decide +kernel
set_option maxRecDepth 20000 in
theorem ggX6_readTune_X6_figure : GoodIn wsX6_readTune wsX6_figure := goodIn_r _ [7, 8, 9, 10, 11, 12, 6, 13, 14, 15, 16, 17, 18, 19, 20, 21, 22, 23, 24, 25, 26, 27, 28, 29, 30, 31, 32, 33, 34, 35, 36] (by decide +kernel) (by decide +kernel)
set_option maxRecDepth 20000 in
theorem gX6_readTune_X6_figure : GoodIn wsX6_readTune (wsV RX6 73 RX6 yX6_figure wsX6_figure) := goodIn_app (goodIn_of _ (by decide +kernel)) ggX6_readTune_X6_figure
theorem dX6_readTune_0 : decode cX6_readTune 0 = .ok (.aload_n 0, 1) := by decide +kernel
theorem dX6_readTune_1 : decode cX6_readTune 1 = .ok (.iconst 0, 1) := by decide +kernel
theorem dX6_readTune_2 : decode cX6_readTune 2 = .ok (.iconst 2, 1) := by decide +kernel
theorem dX6_readTune_3 : decode cX6_readTune 3 = .ok (.invokevirtual 73, 3) := by decide +kernel
theorem dX6_readTune_6 : decode cX6_readTune 6 = .ok (.istore_n 1, 1) := by decide +kernel
theorem dX6_readTune_7 : decode cX6_readTune 7 = .ok (.iload_n 1, 1) := by decide +kernel
theorem dX6_readTune_8 : decode cX6_readTune 8 = .ok (.bipush (-9), 2) := by decide +kernel
theorem dX6_readTune_10 : decode cX6_readTune 10 = .ok (.if_icmp .ne 8, 3) := by decide +kernel
theorem dX6_readTune_13 : decode cX6_readTune 13 = .ok (.bipush (-9), 2) := by decide +kernel
theorem dX6_readTune_15 : decode cX6_readTune 15 = .ok (.goto 10, 3) := by decide +kernel
theorem dX6_readTune_18 : decode cX6_readTune 18 = .ok (.aload_n 0, 1) := by decide +kernel
theorem dX6_readTune_19 : decode cX6_readTune 19 = .ok (.iconst 1, 1) := by decide +kernel
theorem dX6_readTune_20 : decode cX6_readTune 20 = .ok (.bipush 9, 2) := by decide +kernel
theorem dX6_readTune_22 : decode cX6_readTune 22 = .ok (.invokevirtual 73, 3) := by decide +kernel
theorem dX6_readTune_25 : decode cX6_readTune 25 = .ok (.istore_n 2, 1) := by decide +kernel
theorem dX6_readTune_26 : decode cX6_readTune 26 = .ok (.iload_n 2, 1) := by decide +kernel
theorem dX6_readTune_27 : decode cX6_readTune 27 = .ok (.bipush (-9), 2) := by decide +kernel
theorem dX6_readTune_29 : decode cX6_readTune 29 = .ok (.if_icmp .ne 8, 3) := by decide +kernel
theorem dX6_readTune_32 : decode cX6_readTune 32 = .ok (.bipush (-9), 2) := by decide +kernel
theorem dX6_readTune_34 : decode cX6_readTune 34 = .ok (.goto 10, 3) := by decide +kernel
theorem dX6_readTune_37 : decode cX6_readTune 37 = .ok (.aload_n 0, 1) := by decide +kernel
theorem dX6_readTune_38 : decode cX6_readTune 38 = .ok (.iconst 0, 1) := by decide +kernel
theorem dX6_readTune_39 : decode cX6_readTune 39 = .ok (.bipush 9, 2) := by decide +kernel
theorem dX6_readTune_41 : decode cX6_readTune 41 = .ok (.invokevirtual 73, 3) := by decide +kernel
theorem dX6_readTune_44 : decode cX6_readTune 44 = .ok (.istore_n 3, 1) := by decide +kernel
theorem dX6_readTune_45 : decode cX6_readTune 45 = .ok (.iload_n 3, 1) := by decide +kernel
theorem dX6_readTune_46 : decode cX6_readTune 46 = .ok (.bipush (-9), 2) := by decide +kernel
theorem dX6_readTune_48 : decode cX6_readTune 48 = .ok (.if_icmp .ne 5, 3) := by decide +kernel
theorem dX6_readTune_51 : decode cX6_readTune 51 = .ok (.iconst 0, 1) := by decide +kernel
theorem dX6_readTune_52 : decode cX6_readTune 52 = .ok (.ireturn, 1) := by decide +kernel
theorem dX6_readTune_53 : decode cX6_readTune 53 = .ok (.aload_n 0, 1) := by decide +kernel
theorem dX6_readTune_54 : decode cX6_readTune 54 = .ok (.getfield 22, 3) := by decide +kernel
theorem dX6_readTune_57 : decode cX6_readTune 57 = .ok (.iconst 3, 1) := by decide +kernel
theorem dX6_readTune_58 : decode cX6_readTune 58 = .ok (.aload_n 0, 1) := by decide +kernel
theorem dX6_readTune_59 : decode cX6_readTune 59 = .ok (.getfield 80, 3) := by decide +kernel
theorem dX6_readTune_62 : decode cX6_readTune 62 = .ok (.imul, 1) := by decide +kernel
theorem dX6_readTune_63 : decode cX6_readTune 63 = .ok (.iload_n 1, 1) := by decide +kernel
theorem dX6_readTune_64 : decode cX6_readTune 64 = .ok (.iastore, 1) := by decide +kernel
theorem dX6_readTune_65 : decode cX6_readTune 65 = .ok (.aload_n 0, 1) := by decide +kernel
theorem dX6_readTune_66 : decode cX6_readTune 66 = .ok (.getfield 22, 3) := by decide +kernel
theorem dX6_readTune_69 : decode cX6_readTune 69 = .ok (.iconst 3, 1) := by decide +kernel
theorem dX6_readTune_70 : decode cX6_readTune 70 = .ok (.aload_n 0, 1) := by decide +kernel
theorem dX6_readTune_71 : decode cX6_readTune 71 = .ok (.getfield 80, 3) := by decide +kernel
theorem dX6_readTune_74 : decode cX6_readTune 74 = .ok (.imul, 1) := by decide +kernel
theorem dX6_readTune_75 : decode cX6_readTune 75 = .ok (.iconst 1, 1) := by decide +kernel
theorem dX6_readTune_76 : decode cX6_readTune 76 = .ok (.iadd, 1) := by decide +kernel
theorem dX6_readTune_77 : decode cX6_readTune 77 = .ok (.iload_n 2, 1) := by decide +kernel
theorem dX6_readTune_78 : decode cX6_readTune 78 = .ok (.iastore, 1) := by decide +kernel
theorem dX6_readTune_79 : decode cX6_readTune 79 = .ok (.aload_n 0, 1) := by decide +kernel
theorem dX6_readTune_80 : decode cX6_readTune 80 = .ok (.getfield 22, 3) := by decide +kernel
theorem dX6_readTune_83 : decode cX6_readTune 83 = .ok (.iconst 3, 1) := by decide +kernel
theorem dX6_readTune_84 : decode cX6_readTune 84 = .ok (.aload_n 0, 1) := by decide +kernel
theorem dX6_readTune_85 : decode cX6_readTune 85 = .ok (.getfield 80, 3) := by decide +kernel
theorem dX6_readTune_88 : decode cX6_readTune 88 = .ok (.imul, 1) := by decide +kernel
theorem dX6_readTune_89 : decode cX6_readTune 89 = .ok (.iconst 2, 1) := by decide +kernel
theorem dX6_readTune_90 : decode cX6_readTune 90 = .ok (.iadd, 1) := by decide +kernel
theorem dX6_readTune_91 : decode cX6_readTune 91 = .ok (.iload_n 3, 1) := by decide +kernel
theorem dX6_readTune_92 : decode cX6_readTune 92 = .ok (.iastore, 1) := by decide +kernel
theorem dX6_readTune_93 : decode cX6_readTune 93 = .ok (.aload_n 0, 1) := by decide +kernel
theorem dX6_readTune_94 : decode cX6_readTune 94 = .ok (.dup, 1) := by decide +kernel
theorem dX6_readTune_95 : decode cX6_readTune 95 = .ok (.getfield 80, 3) := by decide +kernel
theorem dX6_readTune_98 : decode cX6_readTune 98 = .ok (.iconst 1, 1) := by decide +kernel
theorem dX6_readTune_99 : decode cX6_readTune 99 = .ok (.iadd, 1) := by decide +kernel
theorem dX6_readTune_100 : decode cX6_readTune 100 = .ok (.putfield 80, 3) := by decide +kernel
theorem dX6_readTune_103 : decode cX6_readTune 103 = .ok (.iconst 1, 1) := by decide +kernel
theorem dX6_readTune_104 : decode cX6_readTune 104 = .ok (.ireturn, 1) := by decide +kernel
set_option maxRecDepth 20000 in
theorem ggX6_readPart_X6_readPerson : GoodIn wsX6_readPart wsX6_readPerson := goodIn_r _ [9, 10, 3, 11, 12, 8, 13, 14, 15, 16, 17, 2, 18, 1, 19, 20, 21, 27, 28, 29, 30, 31, 32, 33, 34, 35, 36, 37, 38, 39, 40, 41, 42, 43, 44, 45, 46, 47, 48, 49] (by decide +kernel) (by decide +kernel)
set_option maxRecDepth 20000 in
theorem gX6_readPart_X6_readPerson : GoodIn wsX6_readPart (wsV RX6 83 RX6 yX6_readPerson wsX6_readPerson) := goodIn_app (goodIn_of _ (by decide +kernel)) ggX6_readPart_X6_readPerson
set_option maxRecDepth 20000 in
theorem ggX6_readPart_X6_readTune : GoodIn wsX6_readPart wsX6_readTune := goodIn_r _ [25, 26, 4, 14, 15, 16, 8, 17, 2, 18, 1, 19, 20, 21, 27, 28, 29, 30, 31, 32, 33, 34, 35, 36, 37, 38, 39, 40, 41, 42, 43, 44, 45, 46, 47, 48, 49] (by decide +kernel) (by decide +kernel)
set_option maxRecDepth 20000 in
theorem gX6_readPart_X6_readTune : GoodIn wsX6_readPart (wsV RX6 87 RX6 yX6_readTune wsX6_readTune) := goodIn_app (goodIn_of _ (by decide +kernel)) ggX6_readPart_X6_readTune
theorem dX6_readPart_0 : decode cX6_readPart 0 = .ok (.aload_n 0, 1) := by decide +kernel
theorem dX6_readPart_1 : decode cX6_readPart 1 = .ok (.getfield 7, 3) := by decide +kernel
theorem dX6_readPart_4 : decode cX6_readPart 4 = .ok (.aload_n 0, 1) := by decide +kernel
theorem dX6_readPart_5 : decode cX6_readPart 5 = .ok (.getfield 66, 3) := by decide +kernel
theorem dX6_readPart_8 : decode cX6_readPart 8 = .ok (.iaload, 1) := by decide +kernel
theorem dX6_readPart_9 : decode cX6_readPart 9 = .ok (.istore_n 1, 1) := by decide +kernel
theorem dX6_readPart_10 : decode cX6_readPart 10 = .ok (.iload_n 1, 1) := by decide +kernel
theorem dX6_readPart_11 : decode cX6_readPart 11 = .ok (.bipush 80, 2) := by decide +kernel
theorem dX6_readPart_13 : decode cX6_readPart 13 = .ok (.if_icmp .ne 27, 3) := by decide +kernel
theorem dX6_readPart_16 : decode cX6_readPart 16 = .ok (.aload_n 0, 1) := by decide +kernel
theorem dX6_readPart_17 : decode cX6_readPart 17 = .ok (.getfield 77, 3) := by decide +kernel
theorem dX6_readPart_20 : decode cX6_readPart 20 = .ok (.bipush 6, 2) := by decide +kernel
theorem dX6_readPart_22 : decode cX6_readPart 22 = .ok (.if_icmp .ge 18, 3) := by decide +kernel
theorem dX6_readPart_25 : decode cX6_readPart 25 = .ok (.aload_n 0, 1) := by decide +kernel
theorem dX6_readPart_26 : decode cX6_readPart 26 = .ok (.dup, 1) := by decide +kernel
theorem dX6_readPart_27 : decode cX6_readPart 27 = .ok (.getfield 66, 3) := by decide +kernel
theorem dX6_readPart_30 : decode cX6_readPart 30 = .ok (.iconst 1, 1) := by decide +kernel
theorem dX6_readPart_31 : decode cX6_readPart 31 = .ok (.iadd, 1) := by decide +kernel
theorem dX6_readPart_32 : decode cX6_readPart 32 = .ok (.putfield 66, 3) := by decide +kernel
theorem dX6_readPart_35 : decode cX6_readPart 35 = .ok (.aload_n 0, 1) := by decide +kernel
theorem dX6_readPart_36 : decode cX6_readPart 36 = .ok (.invokevirtual 83, 3) := by decide +kernel
theorem dX6_readPart_39 : decode cX6_readPart 39 = .ok (.ireturn, 1) := by decide +kernel
theorem dX6_readPart_40 : decode cX6_readPart 40 = .ok (.iload_n 1, 1) := by decide +kernel
theorem dX6_readPart_41 : decode cX6_readPart 41 = .ok (.bipush 84, 2) := by decide +kernel
theorem dX6_readPart_43 : decode cX6_readPart 43 = .ok (.if_icmp .ne 26, 3) := by decide +kernel
theorem dX6_readPart_46 : decode cX6_readPart 46 = .ok (.aload_n 0, 1) := by decide +kernel
theorem dX6_readPart_47 : decode cX6_readPart 47 = .ok (.getfield 80, 3) := by decide +kernel
theorem dX6_readPart_50 : decode cX6_readPart 50 = .ok (.iconst 4, 1) := by decide +kernel
theorem dX6_readPart_51 : decode cX6_readPart 51 = .ok (.if_icmp .ge 18, 3) := by decide +kernel
theorem dX6_readPart_54 : decode cX6_readPart 54 = .ok (.aload_n 0, 1) := by decide +kernel
theorem dX6_readPart_55 : decode cX6_readPart 55 = .ok (.dup, 1) := by decide +kernel
theorem dX6_readPart_56 : decode cX6_readPart 56 = .ok (.getfield 66, 3) := by decide +kernel
theorem dX6_readPart_59 : decode cX6_readPart 59 = .ok (.iconst 1, 1) := by decide +kernel
theorem dX6_readPart_60 : decode cX6_readPart 60 = .ok (.iadd, 1) := by decide +kernel
theorem dX6_readPart_61 : decode cX6_readPart 61 = .ok (.putfield 66, 3) := by decide +kernel
theorem dX6_readPart_64 : decode cX6_readPart 64 = .ok (.aload_n 0, 1) := by decide +kernel
theorem dX6_readPart_65 : decode cX6_readPart 65 = .ok (.invokevirtual 87, 3) := by decide +kernel
theorem dX6_readPart_68 : decode cX6_readPart 68 = .ok (.ireturn, 1) := by decide +kernel
theorem dX6_readPart_69 : decode cX6_readPart 69 = .ok (.iconst 0, 1) := by decide +kernel
theorem dX6_readPart_70 : decode cX6_readPart 70 = .ok (.ireturn, 1) := by decide +kernel
set_option maxRecDepth 20000 in
theorem ggX6_readSquare_X6_readPart : GoodIn wsX6_readSquare wsX6_readPart := goodIn_r _ [10, 5, 1, 2, 3, 11, 12, 13, 9, 14, 15, 16, 17, 18, 19, 20, 21, 22, 4, 23, 24, 25, 26, 27, 28, 29, 30, 31, 32, 33, 34, 35, 36, 37, 38, 39, 40, 41, 42, 43, 44, 45, 46, 47, 48, 49, 50, 51, 52, 53] (by decide +kernel) (by decide +kernel)
set_option maxRecDepth 20000 in
theorem gX6_readSquare_X6_readPart : GoodIn wsX6_readSquare (wsV RX6 90 RX6 yX6_readPart wsX6_readPart) := goodIn_app (goodIn_of _ (by decide +kernel)) ggX6_readSquare_X6_readPart
theorem dX6_readSquare_0 : decode cX6_readSquare 0 = .ok (.aload_n 0, 1) := by decide +kernel
theorem dX6_readSquare_1 : decode cX6_readSquare 1 = .ok (.iconst 0, 1) := by decide +kernel
theorem dX6_readSquare_2 : decode cX6_readSquare 2 = .ok (.putfield 66, 3) := by decide +kernel
theorem dX6_readSquare_5 : decode cX6_readSquare 5 = .ok (.aload_n 0, 1) := by decide +kernel
theorem dX6_readSquare_6 : decode cX6_readSquare 6 = .ok (.iconst 0, 1) := by decide +kernel
theorem dX6_readSquare_7 : decode cX6_readSquare 7 = .ok (.putfield 77, 3) := by decide +kernel
theorem dX6_readSquare_10 : decode cX6_readSquare 10 = .ok (.aload_n 0, 1) := by decide +kernel
theorem dX6_readSquare_11 : decode cX6_readSquare 11 = .ok (.iconst 0, 1) := by decide +kernel
theorem dX6_readSquare_12 : decode cX6_readSquare 12 = .ok (.putfield 80, 3) := by decide +kernel
theorem dX6_readSquare_15 : decode cX6_readSquare 15 = .ok (.aload_n 0, 1) := by decide +kernel
theorem dX6_readSquare_16 : decode cX6_readSquare 16 = .ok (.getfield 63, 3) := by decide +kernel
theorem dX6_readSquare_19 : decode cX6_readSquare 19 = .ok (.ifCond .eq 14, 3) := by decide +kernel
theorem dX6_readSquare_22 : decode cX6_readSquare 22 = .ok (.aload_n 0, 1) := by decide +kernel
theorem dX6_readSquare_23 : decode cX6_readSquare 23 = .ok (.getfield 7, 3) := by decide +kernel
theorem dX6_readSquare_26 : decode cX6_readSquare 26 = .ok (.iconst 0, 1) := by decide +kernel
theorem dX6_readSquare_27 : decode cX6_readSquare 27 = .ok (.iaload, 1) := by decide +kernel
theorem dX6_readSquare_28 : decode cX6_readSquare 28 = .ok (.bipush 72, 2) := by decide +kernel
theorem dX6_readSquare_30 : decode cX6_readSquare 30 = .ok (.if_icmp .eq 5, 3) := by decide +kernel
theorem dX6_readSquare_33 : decode cX6_readSquare 33 = .ok (.iconst 0, 1) := by decide +kernel
theorem dX6_readSquare_34 : decode cX6_readSquare 34 = .ok (.ireturn, 1) := by decide +kernel
theorem dX6_readSquare_35 : decode cX6_readSquare 35 = .ok (.aload_n 0, 1) := by decide +kernel
theorem dX6_readSquare_36 : decode cX6_readSquare 36 = .ok (.iconst 1, 1) := by decide +kernel
theorem dX6_readSquare_37 : decode cX6_readSquare 37 = .ok (.putfield 66, 3) := by decide +kernel
theorem dX6_readSquare_40 : decode cX6_readSquare 40 = .ok (.aload_n 0, 1) := by decide +kernel
theorem dX6_readSquare_41 : decode cX6_readSquare 41 = .ok (.getfield 66, 3) := by decide +kernel
theorem dX6_readSquare_44 : decode cX6_readSquare 44 = .ok (.aload_n 0, 1) := by decide +kernel
theorem dX6_readSquare_45 : decode cX6_readSquare 45 = .ok (.getfield 63, 3) := by decide +kernel
theorem dX6_readSquare_48 : decode cX6_readSquare 48 = .ok (.if_icmp .ge 15, 3) := by decide +kernel
theorem dX6_readSquare_51 : decode cX6_readSquare 51 = .ok (.aload_n 0, 1) := by decide +kernel
theorem dX6_readSquare_52 : decode cX6_readSquare 52 = .ok (.invokevirtual 90, 3) := by decide +kernel
theorem dX6_readSquare_55 : decode cX6_readSquare 55 = .ok (.ifCond .ne (-15), 3) := by decide +kernel
theorem dX6_readSquare_58 : decode cX6_readSquare 58 = .ok (.aload_n 0, 1) := by decide +kernel
theorem dX6_readSquare_59 : decode cX6_readSquare 59 = .ok (.getfield 66, 3) := by decide +kernel
theorem dX6_readSquare_62 : decode cX6_readSquare 62 = .ok (.ireturn, 1) := by decide +kernel
theorem dX6_readSquare_63 : decode cX6_readSquare 63 = .ok (.bipush (-9), 2) := by decide +kernel
theorem dX6_readSquare_65 : decode cX6_readSquare 65 = .ok (.ireturn, 1) := by decide +kernel
set_option maxRecDepth 20000 in
theorem ggX6_fault_X6_readSquare : GoodIn wsX6_fault wsX6_readSquare := goodIn_r _ [6, 7, 8, 9, 10, 11, 12, 13, 14, 5, 15, 16, 17, 18, 19, 20, 21, 22, 23, 24, 25, 26, 27, 28, 29, 30, 31, 32, 33, 34, 35, 36, 37, 38, 39, 40, 41, 42, 43, 44, 45, 46, 47, 48, 49, 50, 51, 52, 53, 54, 55, 56, 57, 58] (by decide +kernel) (by decide +kernel)
set_option maxRecDepth 20000 in
theorem gX6_fault_X6_readSquare : GoodIn wsX6_fault (wsV RX6 93 RX6 yX6_readSquare wsX6_readSquare) := goodIn_app (goodIn_of _ (by decide +kernel)) ggX6_fault_X6_readSquare
theorem dX6_fault_0 : decode cX6_fault 0 = .ok (.aload_n 0, 1) := by decide +kernel
theorem dX6_fault_1 : decode cX6_fault 1 = .ok (.iconst 0, 1) := by decide +kernel
theorem dX6_fault_2 : decode cX6_fault 2 = .ok (.putfield 47, 3) := by decide +kernel
theorem dX6_fault_5 : decode cX6_fault 5 = .ok (.aload_n 0, 1) := by decide +kernel
theorem dX6_fault_6 : decode cX6_fault 6 = .ok (.invokevirtual 93, 3) := by decide +kernel
theorem dX6_fault_9 : decode cX6_fault 9 = .ok (.ireturn, 1) := by decide +kernel
set_option maxRecDepth 20000 in
theorem ggX6_square_X6_readSquare : GoodIn wsX6_square wsX6_readSquare := goodIn_r _ [17, 18, 2, 4, 19, 20, 21, 22, 23, 16, 24, 25, 26, 27, 28, 8, 29, 30, 31, 32, 33, 34, 35, 36, 37, 38, 39, 40, 41, 42, 10, 43, 44, 45, 46, 47, 48, 49, 50, 51, 52, 53, 54, 55, 56, 57, 58, 59, 60, 61, 62, 63, 64, 65] (by decide +kernel) (by decide +kernel)
set_option maxRecDepth 20000 in
theorem gX6_square_X6_readSquare : GoodIn wsX6_square (wsV RX6 93 RX6 yX6_readSquare wsX6_readSquare) := goodIn_app (goodIn_of _ (by decide +kernel)) ggX6_square_X6_readSquare
theorem dX6_square_0 : decode cX6_square 0 = .ok (.aload_n 0, 1) := by decide +kernel
theorem dX6_square_1 : decode cX6_square 1 = .ok (.iconst 0, 1) := by decide +kernel
theorem dX6_square_2 : decode cX6_square 2 = .ok (.putfield 47, 3) := by decide +kernel
theorem dX6_square_5 : decode cX6_square 5 = .ok (.aload_n 0, 1) := by decide +kernel
theorem dX6_square_6 : decode cX6_square 6 = .ok (.invokevirtual 93, 3) := by decide +kernel
theorem dX6_square_9 : decode cX6_square 9 = .ok (.bipush (-9), 2) := by decide +kernel
theorem dX6_square_11 : decode cX6_square 11 = .ok (.if_icmp .eq 6, 3) := by decide +kernel
theorem dX6_square_14 : decode cX6_square 14 = .ok (.bipush (-3), 2) := by decide +kernel
theorem dX6_square_16 : decode cX6_square 16 = .ok (.ireturn, 1) := by decide +kernel
theorem dX6_square_17 : decode cX6_square 17 = .ok (.aload_n 0, 1) := by decide +kernel
theorem dX6_square_18 : decode cX6_square 18 = .ok (.aload_n 0, 1) := by decide +kernel
theorem dX6_square_19 : decode cX6_square 19 = .ok (.getfield 77, 3) := by decide +kernel
theorem dX6_square_22 : decode cX6_square 22 = .ok (.putfield 51, 3) := by decide +kernel
theorem dX6_square_25 : decode cX6_square 25 = .ok (.aload_n 0, 1) := by decide +kernel
theorem dX6_square_26 : decode cX6_square 26 = .ok (.aload_n 0, 1) := by decide +kernel
theorem dX6_square_27 : decode cX6_square 27 = .ok (.getfield 80, 3) := by decide +kernel
theorem dX6_square_30 : decode cX6_square 30 = .ok (.putfield 58, 3) := by decide +kernel
theorem dX6_square_33 : decode cX6_square 33 = .ok (.iconst 0, 1) := by decide +kernel
theorem dX6_square_34 : decode cX6_square 34 = .ok (.istore_n 1, 1) := by decide +kernel
theorem dX6_square_35 : decode cX6_square 35 = .ok (.iload_n 1, 1) := by decide +kernel
theorem dX6_square_36 : decode cX6_square 36 = .ok (.bipush 21, 2) := by decide +kernel
theorem dX6_square_38 : decode cX6_square 38 = .ok (.if_icmp .ge 16, 3) := by decide +kernel
theorem dX6_square_41 : decode cX6_square 41 = .ok (.aload_n 0, 1) := by decide +kernel
theorem dX6_square_42 : decode cX6_square 42 = .ok (.getfield 25, 3) := by decide +kernel
theorem dX6_square_45 : decode cX6_square 45 = .ok (.iload_n 1, 1) := by decide +kernel
theorem dX6_square_46 : decode cX6_square 46 = .ok (.iconst 0, 1) := by decide +kernel
theorem dX6_square_47 : decode cX6_square 47 = .ok (.iastore, 1) := by decide +kernel
theorem dX6_square_48 : decode cX6_square 48 = .ok (.iinc 1 1, 3) := by decide +kernel
theorem dX6_square_51 : decode cX6_square 51 = .ok (.goto (-16), 3) := by decide +kernel
theorem dX6_square_54 : decode cX6_square 54 = .ok (.iconst 0, 1) := by decide +kernel
theorem dX6_square_55 : decode cX6_square 55 = .ok (.istore_n 1, 1) := by decide +kernel
theorem dX6_square_56 : decode cX6_square 56 = .ok (.iload_n 1, 1) := by decide +kernel
theorem dX6_square_57 : decode cX6_square 57 = .ok (.bipush 6, 2) := by decide +kernel
theorem dX6_square_59 : decode cX6_square 59 = .ok (.aload_n 0, 1) := by decide +kernel
theorem dX6_square_60 : decode cX6_square 60 = .ok (.getfield 51, 3) := by decide +kernel
theorem dX6_square_63 : decode cX6_square 63 = .ok (.imul, 1) := by decide +kernel
theorem dX6_square_64 : decode cX6_square 64 = .ok (.if_icmp .ge 21, 3) := by decide +kernel
theorem dX6_square_67 : decode cX6_square 67 = .ok (.aload_n 0, 1) := by decide +kernel
theorem dX6_square_68 : decode cX6_square 68 = .ok (.getfield 13, 3) := by decide +kernel
theorem dX6_square_71 : decode cX6_square 71 = .ok (.iload_n 1, 1) := by decide +kernel
theorem dX6_square_72 : decode cX6_square 72 = .ok (.aload_n 0, 1) := by decide +kernel
theorem dX6_square_73 : decode cX6_square 73 = .ok (.getfield 19, 3) := by decide +kernel
theorem dX6_square_76 : decode cX6_square 76 = .ok (.iload_n 1, 1) := by decide +kernel
theorem dX6_square_77 : decode cX6_square 77 = .ok (.iaload, 1) := by decide +kernel
theorem dX6_square_78 : decode cX6_square 78 = .ok (.iastore, 1) := by decide +kernel
theorem dX6_square_79 : decode cX6_square 79 = .ok (.iinc 1 1, 3) := by decide +kernel
theorem dX6_square_82 : decode cX6_square 82 = .ok (.goto (-26), 3) := by decide +kernel
theorem dX6_square_85 : decode cX6_square 85 = .ok (.iconst 0, 1) := by decide +kernel
theorem dX6_square_86 : decode cX6_square 86 = .ok (.istore_n 1, 1) := by decide +kernel
theorem dX6_square_87 : decode cX6_square 87 = .ok (.iload_n 1, 1) := by decide +kernel
theorem dX6_square_88 : decode cX6_square 88 = .ok (.iconst 3, 1) := by decide +kernel
theorem dX6_square_89 : decode cX6_square 89 = .ok (.aload_n 0, 1) := by decide +kernel
theorem dX6_square_90 : decode cX6_square 90 = .ok (.getfield 58, 3) := by decide +kernel
theorem dX6_square_93 : decode cX6_square 93 = .ok (.imul, 1) := by decide +kernel
theorem dX6_square_94 : decode cX6_square 94 = .ok (.if_icmp .ge 21, 3) := by decide +kernel
theorem dX6_square_97 : decode cX6_square 97 = .ok (.aload_n 0, 1) := by decide +kernel
theorem dX6_square_98 : decode cX6_square 98 = .ok (.getfield 16, 3) := by decide +kernel
theorem dX6_square_101 : decode cX6_square 101 = .ok (.iload_n 1, 1) := by decide +kernel
theorem dX6_square_102 : decode cX6_square 102 = .ok (.aload_n 0, 1) := by decide +kernel
theorem dX6_square_103 : decode cX6_square 103 = .ok (.getfield 22, 3) := by decide +kernel
theorem dX6_square_106 : decode cX6_square 106 = .ok (.iload_n 1, 1) := by decide +kernel
theorem dX6_square_107 : decode cX6_square 107 = .ok (.iaload, 1) := by decide +kernel
theorem dX6_square_108 : decode cX6_square 108 = .ok (.iastore, 1) := by decide +kernel
theorem dX6_square_109 : decode cX6_square 109 = .ok (.iinc 1 1, 3) := by decide +kernel
theorem dX6_square_112 : decode cX6_square 112 = .ok (.goto (-25), 3) := by decide +kernel
theorem dX6_square_115 : decode cX6_square 115 = .ok (.iconst 0, 1) := by decide +kernel
theorem dX6_square_116 : decode cX6_square 116 = .ok (.istore_n 1, 1) := by decide +kernel
theorem dX6_square_117 : decode cX6_square 117 = .ok (.iload_n 1, 1) := by decide +kernel
theorem dX6_square_118 : decode cX6_square 118 = .ok (.aload_n 0, 1) := by decide +kernel
theorem dX6_square_119 : decode cX6_square 119 = .ok (.getfield 51, 3) := by decide +kernel
theorem dX6_square_122 : decode cX6_square 122 = .ok (.if_icmp .ge 78, 3) := by decide +kernel
theorem dX6_square_125 : decode cX6_square 125 = .ok (.aload_n 0, 1) := by decide +kernel
theorem dX6_square_126 : decode cX6_square 126 = .ok (.getfield 25, 3) := by decide +kernel
theorem dX6_square_129 : decode cX6_square 129 = .ok (.iload_n 1, 1) := by decide +kernel
theorem dX6_square_130 : decode cX6_square 130 = .ok (.aload_n 0, 1) := by decide +kernel
theorem dX6_square_131 : decode cX6_square 131 = .ok (.getfield 13, 3) := by decide +kernel
theorem dX6_square_134 : decode cX6_square 134 = .ok (.bipush 6, 2) := by decide +kernel
theorem dX6_square_136 : decode cX6_square 136 = .ok (.iload_n 1, 1) := by decide +kernel
theorem dX6_square_137 : decode cX6_square 137 = .ok (.imul, 1) := by decide +kernel
theorem dX6_square_138 : decode cX6_square 138 = .ok (.iconst 1, 1) := by decide +kernel
theorem dX6_square_139 : decode cX6_square 139 = .ok (.iadd, 1) := by decide +kernel
theorem dX6_square_140 : decode cX6_square 140 = .ok (.iaload, 1) := by decide +kernel
theorem dX6_square_141 : decode cX6_square 141 = .ok (.iastore, 1) := by decide +kernel
theorem dX6_square_142 : decode cX6_square 142 = .ok (.aload_n 0, 1) := by decide +kernel
theorem dX6_square_143 : decode cX6_square 143 = .ok (.getfield 25, 3) := by decide +kernel
theorem dX6_square_146 : decode cX6_square 146 = .ok (.bipush 6, 2) := by decide +kernel
theorem dX6_square_148 : decode cX6_square 148 = .ok (.iload_n 1, 1) := by decide +kernel
theorem dX6_square_149 : decode cX6_square 149 = .ok (.iadd, 1) := by decide +kernel
theorem dX6_square_150 : decode cX6_square 150 = .ok (.aload_n 0, 1) := by decide +kernel
theorem dX6_square_151 : decode cX6_square 151 = .ok (.getfield 13, 3) := by decide +kernel
theorem dX6_square_154 : decode cX6_square 154 = .ok (.bipush 6, 2) := by decide +kernel
theorem dX6_square_156 : decode cX6_square 156 = .ok (.iload_n 1, 1) := by decide +kernel
theorem dX6_square_157 : decode cX6_square 157 = .ok (.imul, 1) := by decide +kernel
theorem dX6_square_158 : decode cX6_square 158 = .ok (.iconst 2, 1) := by decide +kernel
theorem dX6_square_159 : decode cX6_square 159 = .ok (.iadd, 1) := by decide +kernel
theorem dX6_square_160 : decode cX6_square 160 = .ok (.iaload, 1) := by decide +kernel
theorem dX6_square_161 : decode cX6_square 161 = .ok (.iastore, 1) := by decide +kernel
theorem dX6_square_162 : decode cX6_square 162 = .ok (.aload_n 0, 1) := by decide +kernel
theorem dX6_square_163 : decode cX6_square 163 = .ok (.getfield 25, 3) := by decide +kernel
theorem dX6_square_166 : decode cX6_square 166 = .ok (.aload_n 0, 1) := by decide +kernel
theorem dX6_square_167 : decode cX6_square 167 = .ok (.getfield 13, 3) := by decide +kernel
theorem dX6_square_170 : decode cX6_square 170 = .ok (.bipush 6, 2) := by decide +kernel
theorem dX6_square_172 : decode cX6_square 172 = .ok (.iload_n 1, 1) := by decide +kernel
theorem dX6_square_173 : decode cX6_square 173 = .ok (.imul, 1) := by decide +kernel
theorem dX6_square_174 : decode cX6_square 174 = .ok (.iconst 5, 1) := by decide +kernel
theorem dX6_square_175 : decode cX6_square 175 = .ok (.iadd, 1) := by decide +kernel
theorem dX6_square_176 : decode cX6_square 176 = .ok (.iaload, 1) := by decide +kernel
theorem dX6_square_177 : decode cX6_square 177 = .ok (.ifCond .ne 8, 3) := by decide +kernel
theorem dX6_square_180 : decode cX6_square 180 = .ok (.bipush 12, 2) := by decide +kernel
theorem dX6_square_182 : decode cX6_square 182 = .ok (.goto 5, 3) := by decide +kernel
theorem dX6_square_185 : decode cX6_square 185 = .ok (.bipush 13, 2) := by decide +kernel
theorem dX6_square_187 : decode cX6_square 187 = .ok (.dup2, 1) := by decide +kernel
theorem dX6_square_188 : decode cX6_square 188 = .ok (.iaload, 1) := by decide +kernel
theorem dX6_square_189 : decode cX6_square 189 = .ok (.iconst 1, 1) := by decide +kernel
theorem dX6_square_190 : decode cX6_square 190 = .ok (.iload_n 1, 1) := by decide +kernel
theorem dX6_square_191 : decode cX6_square 191 = .ok (.ishl, 1) := by decide +kernel
theorem dX6_square_192 : decode cX6_square 192 = .ok (.ior, 1) := by decide +kernel
theorem dX6_square_193 : decode cX6_square 193 = .ok (.iastore, 1) := by decide +kernel
theorem dX6_square_194 : decode cX6_square 194 = .ok (.iinc 1 1, 3) := by decide +kernel
theorem dX6_square_197 : decode cX6_square 197 = .ok (.goto (-80), 3) := by decide +kernel
theorem dX6_square_200 : decode cX6_square 200 = .ok (.aload_n 0, 1) := by decide +kernel
theorem dX6_square_201 : decode cX6_square 201 = .ok (.iconst 0, 1) := by decide +kernel
theorem dX6_square_202 : decode cX6_square 202 = .ok (.putfield 97, 3) := by decide +kernel
theorem dX6_square_205 : decode cX6_square 205 = .ok (.aload_n 0, 1) := by decide +kernel
theorem dX6_square_206 : decode cX6_square 206 = .ok (.getfield 37, 3) := by decide +kernel
theorem dX6_square_209 : decode cX6_square 209 = .ok (.iconst 0, 1) := by decide +kernel
theorem dX6_square_210 : decode cX6_square 210 = .ok (.iconst 0, 1) := by decide +kernel
theorem dX6_square_211 : decode cX6_square 211 = .ok (.bastore, 1) := by decide +kernel
theorem dX6_square_212 : decode cX6_square 212 = .ok (.aload_n 0, 1) := by decide +kernel
theorem dX6_square_213 : decode cX6_square 213 = .ok (.getfield 37, 3) := by decide +kernel
theorem dX6_square_216 : decode cX6_square 216 = .ok (.iconst 1, 1) := by decide +kernel
theorem dX6_square_217 : decode cX6_square 217 = .ok (.iconst 0, 1) := by decide +kernel
theorem dX6_square_218 : decode cX6_square 218 = .ok (.bastore, 1) := by decide +kernel
theorem dX6_square_219 : decode cX6_square 219 = .ok (.bipush 10, 2) := by decide +kernel
theorem dX6_square_221 : decode cX6_square 221 = .ok (.aload_n 0, 1) := by decide +kernel
theorem dX6_square_222 : decode cX6_square 222 = .ok (.getfield 51, 3) := by decide +kernel
theorem dX6_square_225 : decode cX6_square 225 = .ok (.imul, 1) := by decide +kernel
theorem dX6_square_226 : decode cX6_square 226 = .ok (.aload_n 0, 1) := by decide +kernel
theorem dX6_square_227 : decode cX6_square 227 = .ok (.getfield 58, 3) := by decide +kernel
theorem dX6_square_230 : decode cX6_square 230 = .ok (.iadd, 1) := by decide +kernel
theorem dX6_square_231 : decode cX6_square 231 = .ok (.ireturn, 1) := by decide +kernel
theorem dX6_about_0 : decode cX6_about 0 = .ok (.aload_n 0, 1) := by decide +kernel
theorem dX6_about_1 : decode cX6_about 1 = .ok (.iconst 0, 1) := by decide +kernel
theorem dX6_about_2 : decode cX6_about 2 = .ok (.putfield 47, 3) := by decide +kernel
theorem dX6_about_5 : decode cX6_about 5 = .ok (.iload_n 1, 1) := by decide +kernel
theorem dX6_about_6 : decode cX6_about 6 = .ok (.tableswitch 119 0 9 #[54, 59, 64, 72, 80, 88, 96, 104, 109, 114], 54) := by decide +kernel
theorem dX6_about_60 : decode cX6_about 60 = .ok (.aload_n 0, 1) := by decide +kernel
theorem dX6_about_61 : decode cX6_about 61 = .ok (.getfield 51, 3) := by decide +kernel
theorem dX6_about_64 : decode cX6_about 64 = .ok (.ireturn, 1) := by decide +kernel
theorem dX6_about_65 : decode cX6_about 65 = .ok (.aload_n 0, 1) := by decide +kernel
theorem dX6_about_66 : decode cX6_about 66 = .ok (.getfield 58, 3) := by decide +kernel
theorem dX6_about_69 : decode cX6_about 69 = .ok (.ireturn, 1) := by decide +kernel
theorem dX6_about_70 : decode cX6_about 70 = .ok (.aload_n 0, 1) := by decide +kernel
theorem dX6_about_71 : decode cX6_about 71 = .ok (.getfield 25, 3) := by decide +kernel
theorem dX6_about_74 : decode cX6_about 74 = .ok (.bipush 14, 2) := by decide +kernel
theorem dX6_about_76 : decode cX6_about 76 = .ok (.iaload, 1) := by decide +kernel
theorem dX6_about_77 : decode cX6_about 77 = .ok (.ireturn, 1) := by decide +kernel
theorem dX6_about_78 : decode cX6_about 78 = .ok (.aload_n 0, 1) := by decide +kernel
theorem dX6_about_79 : decode cX6_about 79 = .ok (.getfield 25, 3) := by decide +kernel
theorem dX6_about_82 : decode cX6_about 82 = .ok (.bipush 15, 2) := by decide +kernel
theorem dX6_about_84 : decode cX6_about 84 = .ok (.iaload, 1) := by decide +kernel
theorem dX6_about_85 : decode cX6_about 85 = .ok (.ireturn, 1) := by decide +kernel
theorem dX6_about_86 : decode cX6_about 86 = .ok (.aload_n 0, 1) := by decide +kernel
theorem dX6_about_87 : decode cX6_about 87 = .ok (.getfield 25, 3) := by decide +kernel
theorem dX6_about_90 : decode cX6_about 90 = .ok (.bipush 16, 2) := by decide +kernel
theorem dX6_about_92 : decode cX6_about 92 = .ok (.iaload, 1) := by decide +kernel
theorem dX6_about_93 : decode cX6_about 93 = .ok (.ireturn, 1) := by decide +kernel
theorem dX6_about_94 : decode cX6_about 94 = .ok (.aload_n 0, 1) := by decide +kernel
theorem dX6_about_95 : decode cX6_about 95 = .ok (.getfield 25, 3) := by decide +kernel
theorem dX6_about_98 : decode cX6_about 98 = .ok (.bipush 12, 2) := by decide +kernel
theorem dX6_about_100 : decode cX6_about 100 = .ok (.iaload, 1) := by decide +kernel
theorem dX6_about_101 : decode cX6_about 101 = .ok (.ireturn, 1) := by decide +kernel
theorem dX6_about_102 : decode cX6_about 102 = .ok (.aload_n 0, 1) := by decide +kernel
theorem dX6_about_103 : decode cX6_about 103 = .ok (.getfield 25, 3) := by decide +kernel
theorem dX6_about_106 : decode cX6_about 106 = .ok (.bipush 13, 2) := by decide +kernel
theorem dX6_about_108 : decode cX6_about 108 = .ok (.iaload, 1) := by decide +kernel
theorem dX6_about_109 : decode cX6_about 109 = .ok (.ireturn, 1) := by decide +kernel
theorem dX6_about_110 : decode cX6_about 110 = .ok (.aload_n 0, 1) := by decide +kernel
theorem dX6_about_111 : decode cX6_about 111 = .ok (.getfield 97, 3) := by decide +kernel
theorem dX6_about_114 : decode cX6_about 114 = .ok (.ireturn, 1) := by decide +kernel
theorem dX6_about_115 : decode cX6_about 115 = .ok (.aload_n 0, 1) := by decide +kernel
theorem dX6_about_116 : decode cX6_about 116 = .ok (.getfield 100, 3) := by decide +kernel
theorem dX6_about_119 : decode cX6_about 119 = .ok (.ireturn, 1) := by decide +kernel
theorem dX6_about_120 : decode cX6_about 120 = .ok (.aload_n 0, 1) := by decide +kernel
theorem dX6_about_121 : decode cX6_about 121 = .ok (.getfield 63, 3) := by decide +kernel
theorem dX6_about_124 : decode cX6_about 124 = .ok (.ireturn, 1) := by decide +kernel
theorem dX6_about_125 : decode cX6_about 125 = .ok (.bipush (-2), 2) := by decide +kernel
theorem dX6_about_127 : decode cX6_about 127 = .ok (.ireturn, 1) := by decide +kernel
theorem dX6_giftOf_0 : decode cX6_giftOf 0 = .ok (.aload_n 0, 1) := by decide +kernel
theorem dX6_giftOf_1 : decode cX6_giftOf 1 = .ok (.iload_n 1, 1) := by decide +kernel
theorem dX6_giftOf_2 : decode cX6_giftOf 2 = .ok (.iaload, 1) := by decide +kernel
theorem dX6_giftOf_3 : decode cX6_giftOf 3 = .ok (.iconst 2, 1) := by decide +kernel
theorem dX6_giftOf_4 : decode cX6_giftOf 4 = .ok (.idiv, 1) := by decide +kernel
theorem dX6_giftOf_5 : decode cX6_giftOf 5 = .ok (.istore_n 2, 1) := by decide +kernel
theorem dX6_giftOf_6 : decode cX6_giftOf 6 = .ok (.iload_n 2, 1) := by decide +kernel
theorem dX6_giftOf_7 : decode cX6_giftOf 7 = .ok (.aload_n 0, 1) := by decide +kernel
theorem dX6_giftOf_8 : decode cX6_giftOf 8 = .ok (.bipush 16, 2) := by decide +kernel
theorem dX6_giftOf_10 : decode cX6_giftOf 10 = .ok (.iaload, 1) := by decide +kernel
theorem dX6_giftOf_11 : decode cX6_giftOf 11 = .ok (.iconst 1, 1) := by decide +kernel
theorem dX6_giftOf_12 : decode cX6_giftOf 12 = .ok (.iadd, 1) := by decide +kernel
theorem dX6_giftOf_13 : decode cX6_giftOf 13 = .ok (.if_icmp .le 12, 3) := by decide +kernel
theorem dX6_giftOf_16 : decode cX6_giftOf 16 = .ok (.aload_n 0, 1) := by decide +kernel
theorem dX6_giftOf_17 : decode cX6_giftOf 17 = .ok (.bipush 16, 2) := by decide +kernel
theorem dX6_giftOf_19 : decode cX6_giftOf 19 = .ok (.iaload, 1) := by decide +kernel
theorem dX6_giftOf_20 : decode cX6_giftOf 20 = .ok (.iconst 1, 1) := by decide +kernel
theorem dX6_giftOf_21 : decode cX6_giftOf 21 = .ok (.iadd, 1) := by decide +kernel
theorem dX6_giftOf_22 : decode cX6_giftOf 22 = .ok (.goto 4, 3) := by decide +kernel
theorem dX6_giftOf_25 : decode cX6_giftOf 25 = .ok (.iload_n 2, 1) := by decide +kernel
theorem dX6_giftOf_26 : decode cX6_giftOf 26 = .ok (.ireturn, 1) := by decide +kernel
set_option maxRecDepth 20000 in
theorem ggX6_person_X6_noOne : GoodIn wsX6_person wsX6_noOne := goodIn_r _ [8, 9, 10, 11, 7, 12, 16, 17, 18, 19, 20, 21, 22, 23, 24, 25, 26, 27, 28, 29, 30, 31, 32, 33, 34, 35, 36, 37, 38] (by decide +kernel) (by decide +kernel)
set_option maxRecDepth 20000 in
theorem gX6_person_X6_noOne : GoodIn wsX6_person (wsV RX6 103 RX6 yX6_noOne wsX6_noOne) := goodIn_app (goodIn_of _ (by decide +kernel)) ggX6_person_X6_noOne
set_option maxRecDepth 20000 in
theorem ggX6_person_X6_giftOf : GoodIn wsX6_person wsX6_giftOf := goodIn_r _ [15] (by decide +kernel) (by decide +kernel)
set_option maxRecDepth 20000 in
theorem gX6_person_X6_giftOf : GoodIn wsX6_person (va_wsS RX6 107 yX6_giftOf wsX6_giftOf) := goodIn_app (goodIn_of _ (by decide +kernel)) ggX6_person_X6_giftOf
theorem dX6_person_0 : decode cX6_person 0 = .ok (.aload_n 0, 1) := by decide +kernel
theorem dX6_person_1 : decode cX6_person 1 = .ok (.iconst 0, 1) := by decide +kernel
theorem dX6_person_2 : decode cX6_person 2 = .ok (.putfield 47, 3) := by decide +kernel
theorem dX6_person_5 : decode cX6_person 5 = .ok (.aload_n 0, 1) := by decide +kernel
theorem dX6_person_6 : decode cX6_person 6 = .ok (.iload_n 1, 1) := by decide +kernel
theorem dX6_person_7 : decode cX6_person 7 = .ok (.invokevirtual 103, 3) := by decide +kernel
theorem dX6_person_10 : decode cX6_person 10 = .ok (.ifCond .eq 5, 3) := by decide +kernel
theorem dX6_person_13 : decode cX6_person 13 = .ok (.iconst (-1), 1) := by decide +kernel
theorem dX6_person_14 : decode cX6_person 14 = .ok (.ireturn, 1) := by decide +kernel
theorem dX6_person_15 : decode cX6_person 15 = .ok (.iload_n 2, 1) := by decide +kernel
theorem dX6_person_16 : decode cX6_person 16 = .ok (.tableswitch 99 0 6 #[44, 56, 63, 44, 44, 44, 90], 44) := by decide +kernel
theorem dX6_person_60 : decode cX6_person 60 = .ok (.aload_n 0, 1) := by decide +kernel
theorem dX6_person_61 : decode cX6_person 61 = .ok (.getfield 13, 3) := by decide +kernel
theorem dX6_person_64 : decode cX6_person 64 = .ok (.bipush 6, 2) := by decide +kernel
theorem dX6_person_66 : decode cX6_person 66 = .ok (.iload_n 1, 1) := by decide +kernel
theorem dX6_person_67 : decode cX6_person 67 = .ok (.imul, 1) := by decide +kernel
theorem dX6_person_68 : decode cX6_person 68 = .ok (.iload_n 2, 1) := by decide +kernel
theorem dX6_person_69 : decode cX6_person 69 = .ok (.iadd, 1) := by decide +kernel
theorem dX6_person_70 : decode cX6_person 70 = .ok (.iaload, 1) := by decide +kernel
theorem dX6_person_71 : decode cX6_person 71 = .ok (.ireturn, 1) := by decide +kernel
theorem dX6_person_72 : decode cX6_person 72 = .ok (.aload_n 0, 1) := by decide +kernel
theorem dX6_person_73 : decode cX6_person 73 = .ok (.getfield 25, 3) := by decide +kernel
theorem dX6_person_76 : decode cX6_person 76 = .ok (.iload_n 1, 1) := by decide +kernel
theorem dX6_person_77 : decode cX6_person 77 = .ok (.iaload, 1) := by decide +kernel
theorem dX6_person_78 : decode cX6_person 78 = .ok (.ireturn, 1) := by decide +kernel
theorem dX6_person_79 : decode cX6_person 79 = .ok (.aload_n 0, 1) := by decide +kernel
theorem dX6_person_80 : decode cX6_person 80 = .ok (.getfield 25, 3) := by decide +kernel
theorem dX6_person_83 : decode cX6_person 83 = .ok (.bipush 6, 2) := by decide +kernel
theorem dX6_person_85 : decode cX6_person 85 = .ok (.iload_n 1, 1) := by decide +kernel
theorem dX6_person_86 : decode cX6_person 86 = .ok (.iadd, 1) := by decide +kernel
theorem dX6_person_87 : decode cX6_person 87 = .ok (.iaload, 1) := by decide +kernel
theorem dX6_person_88 : decode cX6_person 88 = .ok (.ifCond .ge 8, 3) := by decide +kernel
theorem dX6_person_91 : decode cX6_person 91 = .ok (.bipush (-9), 2) := by decide +kernel
theorem dX6_person_93 : decode cX6_person 93 = .ok (.goto 12, 3) := by decide +kernel
theorem dX6_person_96 : decode cX6_person 96 = .ok (.aload_n 0, 1) := by decide +kernel
theorem dX6_person_97 : decode cX6_person 97 = .ok (.getfield 25, 3) := by decide +kernel
theorem dX6_person_100 : decode cX6_person 100 = .ok (.bipush 6, 2) := by decide +kernel
theorem dX6_person_102 : decode cX6_person 102 = .ok (.iload_n 1, 1) := by decide +kernel
theorem dX6_person_103 : decode cX6_person 103 = .ok (.iadd, 1) := by decide +kernel
theorem dX6_person_104 : decode cX6_person 104 = .ok (.iaload, 1) := by decide +kernel
theorem dX6_person_105 : decode cX6_person 105 = .ok (.ireturn, 1) := by decide +kernel
theorem dX6_person_106 : decode cX6_person 106 = .ok (.aload_n 0, 1) := by decide +kernel
theorem dX6_person_107 : decode cX6_person 107 = .ok (.getfield 25, 3) := by decide +kernel
theorem dX6_person_110 : decode cX6_person 110 = .ok (.iload_n 1, 1) := by decide +kernel
theorem dX6_person_111 : decode cX6_person 111 = .ok (.invokestatic 107, 3) := by decide +kernel
theorem dX6_person_114 : decode cX6_person 114 = .ok (.ireturn, 1) := by decide +kernel
theorem dX6_person_115 : decode cX6_person 115 = .ok (.bipush (-2), 2) := by decide +kernel
theorem dX6_person_117 : decode cX6_person 117 = .ok (.ireturn, 1) := by decide +kernel
set_option maxRecDepth 20000 in
theorem ggX6_tune_X6_noTune : GoodIn wsX6_tune wsX6_noTune := goodIn_r _ [9, 10, 11, 12, 8, 13, 14, 15, 16, 17, 18, 19, 20, 21, 22, 23, 24, 25, 26, 27, 28, 29, 30, 31, 32, 33, 34, 35, 36] (by decide +kernel) (by decide +kernel)
set_option maxRecDepth 20000 in
theorem gX6_tune_X6_noTune : GoodIn wsX6_tune (wsV RX6 111 RX6 yX6_noTune wsX6_noTune) := goodIn_app (goodIn_of _ (by decide +kernel)) ggX6_tune_X6_noTune
set_option maxRecDepth 20000 in
theorem ggX6_tune_X6_in : GoodIn wsX6_tune wsX6_in := goodIn_r _ [13] (by decide +kernel) (by decide +kernel)
set_option maxRecDepth 20000 in
theorem gX6_tune_X6_in : GoodIn wsX6_tune (va_wsS RX6 54 yX6_in wsX6_in) := goodIn_app (goodIn_of _ (by decide +kernel)) ggX6_tune_X6_in
theorem dX6_tune_0 : decode cX6_tune 0 = .ok (.aload_n 0, 1) := by decide +kernel
theorem dX6_tune_1 : decode cX6_tune 1 = .ok (.iconst 0, 1) := by decide +kernel
theorem dX6_tune_2 : decode cX6_tune 2 = .ok (.putfield 47, 3) := by decide +kernel
theorem dX6_tune_5 : decode cX6_tune 5 = .ok (.aload_n 0, 1) := by decide +kernel
theorem dX6_tune_6 : decode cX6_tune 6 = .ok (.iload_n 1, 1) := by decide +kernel
theorem dX6_tune_7 : decode cX6_tune 7 = .ok (.invokevirtual 111, 3) := by decide +kernel
theorem dX6_tune_10 : decode cX6_tune 10 = .ok (.ifCond .eq 5, 3) := by decide +kernel
theorem dX6_tune_13 : decode cX6_tune 13 = .ok (.iconst (-1), 1) := by decide +kernel
theorem dX6_tune_14 : decode cX6_tune 14 = .ok (.ireturn, 1) := by decide +kernel
theorem dX6_tune_15 : decode cX6_tune 15 = .ok (.iload_n 2, 1) := by decide +kernel
theorem dX6_tune_16 : decode cX6_tune 16 = .ok (.i2l, 1) := by decide +kernel
theorem dX6_tune_17 : decode cX6_tune 17 = .ok (.lconst 0, 1) := by decide +kernel
theorem dX6_tune_18 : decode cX6_tune 18 = .ok (.ldc2_w 114, 3) := by decide +kernel
theorem dX6_tune_21 : decode cX6_tune 21 = .ok (.invokestatic 54, 3) := by decide +kernel
theorem dX6_tune_24 : decode cX6_tune 24 = .ok (.ifCond .eq 16, 3) := by decide +kernel
theorem dX6_tune_27 : decode cX6_tune 27 = .ok (.aload_n 0, 1) := by decide +kernel
theorem dX6_tune_28 : decode cX6_tune 28 = .ok (.getfield 16, 3) := by decide +kernel
theorem dX6_tune_31 : decode cX6_tune 31 = .ok (.iconst 3, 1) := by decide +kernel
theorem dX6_tune_32 : decode cX6_tune 32 = .ok (.iload_n 1, 1) := by decide +kernel
theorem dX6_tune_33 : decode cX6_tune 33 = .ok (.imul, 1) := by decide +kernel
theorem dX6_tune_34 : decode cX6_tune 34 = .ok (.iload_n 2, 1) := by decide +kernel
theorem dX6_tune_35 : decode cX6_tune 35 = .ok (.iadd, 1) := by decide +kernel
theorem dX6_tune_36 : decode cX6_tune 36 = .ok (.iaload, 1) := by decide +kernel
theorem dX6_tune_37 : decode cX6_tune 37 = .ok (.goto 22, 3) := by decide +kernel
theorem dX6_tune_40 : decode cX6_tune 40 = .ok (.iload_n 2, 1) := by decide +kernel
theorem dX6_tune_41 : decode cX6_tune 41 = .ok (.iconst 3, 1) := by decide +kernel
theorem dX6_tune_42 : decode cX6_tune 42 = .ok (.if_icmp .ne 15, 3) := by decide +kernel
theorem dX6_tune_45 : decode cX6_tune 45 = .ok (.aload_n 0, 1) := by decide +kernel
theorem dX6_tune_46 : decode cX6_tune 46 = .ok (.getfield 25, 3) := by decide +kernel
theorem dX6_tune_49 : decode cX6_tune 49 = .ok (.bipush 17, 2) := by decide +kernel
theorem dX6_tune_51 : decode cX6_tune 51 = .ok (.iload_n 1, 1) := by decide +kernel
theorem dX6_tune_52 : decode cX6_tune 52 = .ok (.iadd, 1) := by decide +kernel
theorem dX6_tune_53 : decode cX6_tune 53 = .ok (.iaload, 1) := by decide +kernel
theorem dX6_tune_54 : decode cX6_tune 54 = .ok (.goto 5, 3) := by decide +kernel
theorem dX6_tune_57 : decode cX6_tune 57 = .ok (.bipush (-2), 2) := by decide +kernel
theorem dX6_tune_59 : decode cX6_tune 59 = .ok (.ireturn, 1) := by decide +kernel
theorem dX6_note_0 : decode cX6_note 0 = .ok (.aload_n 0, 1) := by decide +kernel
theorem dX6_note_1 : decode cX6_note 1 = .ok (.getfield 97, 3) := by decide +kernel
theorem dX6_note_4 : decode cX6_note 4 = .ok (.bipush 12, 2) := by decide +kernel
theorem dX6_note_6 : decode cX6_note 6 = .ok (.if_icmp .ne 43, 3) := by decide +kernel
theorem dX6_note_9 : decode cX6_note 9 = .ok (.iconst 0, 1) := by decide +kernel
theorem dX6_note_10 : decode cX6_note 10 = .ok (.istore_n 1, 1) := by decide +kernel
theorem dX6_note_11 : decode cX6_note 11 = .ok (.iload_n 1, 1) := by decide +kernel
theorem dX6_note_12 : decode cX6_note 12 = .ok (.sipush 231, 3) := by decide +kernel
theorem dX6_note_15 : decode cX6_note 15 = .ok (.if_icmp .ge 24, 3) := by decide +kernel
theorem dX6_note_18 : decode cX6_note 18 = .ok (.aload_n 0, 1) := by decide +kernel
theorem dX6_note_19 : decode cX6_note 19 = .ok (.getfield 31, 3) := by decide +kernel
theorem dX6_note_22 : decode cX6_note 22 = .ok (.iload_n 1, 1) := by decide +kernel
theorem dX6_note_23 : decode cX6_note 23 = .ok (.aload_n 0, 1) := by decide +kernel
theorem dX6_note_24 : decode cX6_note 24 = .ok (.getfield 31, 3) := by decide +kernel
theorem dX6_note_27 : decode cX6_note 27 = .ok (.iload_n 1, 1) := by decide +kernel
theorem dX6_note_28 : decode cX6_note 28 = .ok (.bipush 21, 2) := by decide +kernel
theorem dX6_note_30 : decode cX6_note 30 = .ok (.iadd, 1) := by decide +kernel
theorem dX6_note_31 : decode cX6_note 31 = .ok (.iaload, 1) := by decide +kernel
theorem dX6_note_32 : decode cX6_note 32 = .ok (.iastore, 1) := by decide +kernel
theorem dX6_note_33 : decode cX6_note 33 = .ok (.iinc 1 1, 3) := by decide +kernel
theorem dX6_note_36 : decode cX6_note 36 = .ok (.goto (-25), 3) := by decide +kernel
theorem dX6_note_39 : decode cX6_note 39 = .ok (.aload_n 0, 1) := by decide +kernel
theorem dX6_note_40 : decode cX6_note 40 = .ok (.dup, 1) := by decide +kernel
theorem dX6_note_41 : decode cX6_note 41 = .ok (.getfield 97, 3) := by decide +kernel
theorem dX6_note_44 : decode cX6_note 44 = .ok (.iconst 1, 1) := by decide +kernel
theorem dX6_note_45 : decode cX6_note 45 = .ok (.isub, 1) := by decide +kernel
theorem dX6_note_46 : decode cX6_note 46 = .ok (.putfield 97, 3) := by decide +kernel
theorem dX6_note_49 : decode cX6_note 49 = .ok (.iconst 0, 1) := by decide +kernel
theorem dX6_note_50 : decode cX6_note 50 = .ok (.istore_n 1, 1) := by decide +kernel
theorem dX6_note_51 : decode cX6_note 51 = .ok (.iload_n 1, 1) := by decide +kernel
theorem dX6_note_52 : decode cX6_note 52 = .ok (.bipush 21, 2) := by decide +kernel
theorem dX6_note_54 : decode cX6_note 54 = .ok (.if_icmp .ge 29, 3) := by decide +kernel
theorem dX6_note_57 : decode cX6_note 57 = .ok (.aload_n 0, 1) := by decide +kernel
theorem dX6_note_58 : decode cX6_note 58 = .ok (.getfield 31, 3) := by decide +kernel
theorem dX6_note_61 : decode cX6_note 61 = .ok (.bipush 21, 2) := by decide +kernel
theorem dX6_note_63 : decode cX6_note 63 = .ok (.aload_n 0, 1) := by decide +kernel
theorem dX6_note_64 : decode cX6_note 64 = .ok (.getfield 97, 3) := by decide +kernel
theorem dX6_note_67 : decode cX6_note 67 = .ok (.imul, 1) := by decide +kernel
theorem dX6_note_68 : decode cX6_note 68 = .ok (.iload_n 1, 1) := by decide +kernel
theorem dX6_note_69 : decode cX6_note 69 = .ok (.iadd, 1) := by decide +kernel
theorem dX6_note_70 : decode cX6_note 70 = .ok (.aload_n 0, 1) := by decide +kernel
theorem dX6_note_71 : decode cX6_note 71 = .ok (.getfield 25, 3) := by decide +kernel
theorem dX6_note_74 : decode cX6_note 74 = .ok (.iload_n 1, 1) := by decide +kernel
theorem dX6_note_75 : decode cX6_note 75 = .ok (.iaload, 1) := by decide +kernel
theorem dX6_note_76 : decode cX6_note 76 = .ok (.iastore, 1) := by decide +kernel
theorem dX6_note_77 : decode cX6_note 77 = .ok (.iinc 1 1, 3) := by decide +kernel
theorem dX6_note_80 : decode cX6_note 80 = .ok (.goto (-29), 3) := by decide +kernel
theorem dX6_note_83 : decode cX6_note 83 = .ok (.aload_n 0, 1) := by decide +kernel
theorem dX6_note_84 : decode cX6_note 84 = .ok (.dup, 1) := by decide +kernel
theorem dX6_note_85 : decode cX6_note 85 = .ok (.getfield 97, 3) := by decide +kernel
theorem dX6_note_88 : decode cX6_note 88 = .ok (.iconst 1, 1) := by decide +kernel
theorem dX6_note_89 : decode cX6_note 89 = .ok (.iadd, 1) := by decide +kernel
theorem dX6_note_90 : decode cX6_note 90 = .ok (.putfield 97, 3) := by decide +kernel
theorem dX6_note_93 : decode cX6_note 93 = .ok (.return_, 1) := by decide +kernel
set_option maxRecDepth 20000 in
theorem ggX6_goPlay_X6_has : GoodIn wsX6_goPlay wsX6_has := goodIn_r _ [7] (by decide +kernel) (by decide +kernel)
set_option maxRecDepth 20000 in
theorem gX6_goPlay_X6_has : GoodIn wsX6_goPlay (va_wsS RX6 116 yX6_has wsX6_has) := goodIn_app (goodIn_of _ (by decide +kernel)) ggX6_goPlay_X6_has
set_option maxRecDepth 20000 in
theorem ggX6_goPlay_X6_many : GoodIn wsX6_goPlay wsX6_many := goodIn_r _ [10] (by decide +kernel) (by decide +kernel)
set_option maxRecDepth 20000 in
theorem gX6_goPlay_X6_many : GoodIn wsX6_goPlay (va_wsS RX6 120 yX6_many wsX6_many) := goodIn_app (goodIn_of _ (by decide +kernel)) ggX6_goPlay_X6_many
theorem dX6_goPlay_0 : decode cX6_goPlay 0 = .ok (.aload_n 0, 1) := by decide +kernel
theorem dX6_goPlay_1 : decode cX6_goPlay 1 = .ok (.getfield 16, 3) := by decide +kernel
theorem dX6_goPlay_4 : decode cX6_goPlay 4 = .ok (.iconst 3, 1) := by decide +kernel
theorem dX6_goPlay_5 : decode cX6_goPlay 5 = .ok (.iload_n 2, 1) := by decide +kernel
theorem dX6_goPlay_6 : decode cX6_goPlay 6 = .ok (.imul, 1) := by decide +kernel
theorem dX6_goPlay_7 : decode cX6_goPlay 7 = .ok (.iconst 2, 1) := by decide +kernel
theorem dX6_goPlay_8 : decode cX6_goPlay 8 = .ok (.iadd, 1) := by decide +kernel
theorem dX6_goPlay_9 : decode cX6_goPlay 9 = .ok (.iaload, 1) := by decide +kernel
theorem dX6_goPlay_10 : decode cX6_goPlay 10 = .ok (.aload_n 1, 1) := by decide +kernel
theorem dX6_goPlay_11 : decode cX6_goPlay 11 = .ok (.bipush 17, 2) := by decide +kernel
theorem dX6_goPlay_13 : decode cX6_goPlay 13 = .ok (.iload_n 2, 1) := by decide +kernel
theorem dX6_goPlay_14 : decode cX6_goPlay 14 = .ok (.iadd, 1) := by decide +kernel
theorem dX6_goPlay_15 : decode cX6_goPlay 15 = .ok (.iaload, 1) := by decide +kernel
theorem dX6_goPlay_16 : decode cX6_goPlay 16 = .ok (.isub, 1) := by decide +kernel
theorem dX6_goPlay_17 : decode cX6_goPlay 17 = .ok (.ifCond .ge 7, 3) := by decide +kernel
theorem dX6_goPlay_20 : decode cX6_goPlay 20 = .ok (.iconst 0, 1) := by decide +kernel
theorem dX6_goPlay_21 : decode cX6_goPlay 21 = .ok (.goto 20, 3) := by decide +kernel
theorem dX6_goPlay_24 : decode cX6_goPlay 24 = .ok (.aload_n 0, 1) := by decide +kernel
theorem dX6_goPlay_25 : decode cX6_goPlay 25 = .ok (.getfield 16, 3) := by decide +kernel
theorem dX6_goPlay_28 : decode cX6_goPlay 28 = .ok (.iconst 3, 1) := by decide +kernel
theorem dX6_goPlay_29 : decode cX6_goPlay 29 = .ok (.iload_n 2, 1) := by decide +kernel
theorem dX6_goPlay_30 : decode cX6_goPlay 30 = .ok (.imul, 1) := by decide +kernel
theorem dX6_goPlay_31 : decode cX6_goPlay 31 = .ok (.iconst 2, 1) := by decide +kernel
theorem dX6_goPlay_32 : decode cX6_goPlay 32 = .ok (.iadd, 1) := by decide +kernel
theorem dX6_goPlay_33 : decode cX6_goPlay 33 = .ok (.iaload, 1) := by decide +kernel
theorem dX6_goPlay_34 : decode cX6_goPlay 34 = .ok (.aload_n 1, 1) := by decide +kernel
theorem dX6_goPlay_35 : decode cX6_goPlay 35 = .ok (.bipush 17, 2) := by decide +kernel
theorem dX6_goPlay_37 : decode cX6_goPlay 37 = .ok (.iload_n 2, 1) := by decide +kernel
theorem dX6_goPlay_38 : decode cX6_goPlay 38 = .ok (.iadd, 1) := by decide +kernel
theorem dX6_goPlay_39 : decode cX6_goPlay 39 = .ok (.iaload, 1) := by decide +kernel
theorem dX6_goPlay_40 : decode cX6_goPlay 40 = .ok (.isub, 1) := by decide +kernel
theorem dX6_goPlay_41 : decode cX6_goPlay 41 = .ok (.istore_n 3, 1) := by decide +kernel
theorem dX6_goPlay_42 : decode cX6_goPlay 42 = .ok (.iconst 0, 1) := by decide +kernel
theorem dX6_goPlay_43 : decode cX6_goPlay 43 = .ok (.istore 4, 2) := by decide +kernel
theorem dX6_goPlay_45 : decode cX6_goPlay 45 = .ok (.iload 4, 2) := by decide +kernel
theorem dX6_goPlay_47 : decode cX6_goPlay 47 = .ok (.aload_n 0, 1) := by decide +kernel
theorem dX6_goPlay_48 : decode cX6_goPlay 48 = .ok (.getfield 51, 3) := by decide +kernel
theorem dX6_goPlay_51 : decode cX6_goPlay 51 = .ok (.if_icmp .ge 126, 3) := by decide +kernel
theorem dX6_goPlay_54 : decode cX6_goPlay 54 = .ok (.aload_n 1, 1) := by decide +kernel
theorem dX6_goPlay_55 : decode cX6_goPlay 55 = .ok (.bipush 12, 2) := by decide +kernel
theorem dX6_goPlay_57 : decode cX6_goPlay 57 = .ok (.iaload, 1) := by decide +kernel
theorem dX6_goPlay_58 : decode cX6_goPlay 58 = .ok (.iload 4, 2) := by decide +kernel
theorem dX6_goPlay_60 : decode cX6_goPlay 60 = .ok (.invokestatic 116, 3) := by decide +kernel
theorem dX6_goPlay_63 : decode cX6_goPlay 63 = .ok (.ifCond .eq 108, 3) := by decide +kernel
theorem dX6_goPlay_66 : decode cX6_goPlay 66 = .ok (.aload_n 1, 1) := by decide +kernel
theorem dX6_goPlay_67 : decode cX6_goPlay 67 = .ok (.bipush 6, 2) := by decide +kernel
theorem dX6_goPlay_69 : decode cX6_goPlay 69 = .ok (.iload 4, 2) := by decide +kernel
theorem dX6_goPlay_71 : decode cX6_goPlay 71 = .ok (.iadd, 1) := by decide +kernel
theorem dX6_goPlay_72 : decode cX6_goPlay 72 = .ok (.dup2, 1) := by decide +kernel
theorem dX6_goPlay_73 : decode cX6_goPlay 73 = .ok (.iaload, 1) := by decide +kernel
theorem dX6_goPlay_74 : decode cX6_goPlay 74 = .ok (.aload_n 0, 1) := by decide +kernel
theorem dX6_goPlay_75 : decode cX6_goPlay 75 = .ok (.getfield 16, 3) := by decide +kernel
theorem dX6_goPlay_78 : decode cX6_goPlay 78 = .ok (.iconst 3, 1) := by decide +kernel
theorem dX6_goPlay_79 : decode cX6_goPlay 79 = .ok (.iload_n 2, 1) := by decide +kernel
theorem dX6_goPlay_80 : decode cX6_goPlay 80 = .ok (.imul, 1) := by decide +kernel
theorem dX6_goPlay_81 : decode cX6_goPlay 81 = .ok (.iconst 1, 1) := by decide +kernel
theorem dX6_goPlay_82 : decode cX6_goPlay 82 = .ok (.iadd, 1) := by decide +kernel
theorem dX6_goPlay_83 : decode cX6_goPlay 83 = .ok (.iaload, 1) := by decide +kernel
theorem dX6_goPlay_84 : decode cX6_goPlay 84 = .ok (.isub, 1) := by decide +kernel
theorem dX6_goPlay_85 : decode cX6_goPlay 85 = .ok (.iastore, 1) := by decide +kernel
theorem dX6_goPlay_86 : decode cX6_goPlay 86 = .ok (.aload_n 1, 1) := by decide +kernel
theorem dX6_goPlay_87 : decode cX6_goPlay 87 = .ok (.bipush 6, 2) := by decide +kernel
theorem dX6_goPlay_89 : decode cX6_goPlay 89 = .ok (.iload 4, 2) := by decide +kernel
theorem dX6_goPlay_91 : decode cX6_goPlay 91 = .ok (.iadd, 1) := by decide +kernel
theorem dX6_goPlay_92 : decode cX6_goPlay 92 = .ok (.iaload, 1) := by decide +kernel
theorem dX6_goPlay_93 : decode cX6_goPlay 93 = .ok (.ifCond .ge 19, 3) := by decide +kernel
theorem dX6_goPlay_96 : decode cX6_goPlay 96 = .ok (.aload_n 1, 1) := by decide +kernel
theorem dX6_goPlay_97 : decode cX6_goPlay 97 = .ok (.bipush 12, 2) := by decide +kernel
theorem dX6_goPlay_99 : decode cX6_goPlay 99 = .ok (.dup2, 1) := by decide +kernel
theorem dX6_goPlay_100 : decode cX6_goPlay 100 = .ok (.iaload, 1) := by decide +kernel
theorem dX6_goPlay_101 : decode cX6_goPlay 101 = .ok (.iconst 1, 1) := by decide +kernel
theorem dX6_goPlay_102 : decode cX6_goPlay 102 = .ok (.iload 4, 2) := by decide +kernel
theorem dX6_goPlay_104 : decode cX6_goPlay 104 = .ok (.ishl, 1) := by decide +kernel
theorem dX6_goPlay_105 : decode cX6_goPlay 105 = .ok (.iconst (-1), 1) := by decide +kernel
theorem dX6_goPlay_106 : decode cX6_goPlay 106 = .ok (.ixor, 1) := by decide +kernel
theorem dX6_goPlay_107 : decode cX6_goPlay 107 = .ok (.iand, 1) := by decide +kernel
theorem dX6_goPlay_108 : decode cX6_goPlay 108 = .ok (.iastore, 1) := by decide +kernel
theorem dX6_goPlay_109 : decode cX6_goPlay 109 = .ok (.goto 62, 3) := by decide +kernel
theorem dX6_goPlay_112 : decode cX6_goPlay 112 = .ok (.aload_n 1, 1) := by decide +kernel
theorem dX6_goPlay_113 : decode cX6_goPlay 113 = .ok (.iload 4, 2) := by decide +kernel
theorem dX6_goPlay_115 : decode cX6_goPlay 115 = .ok (.dup2, 1) := by decide +kernel
theorem dX6_goPlay_116 : decode cX6_goPlay 116 = .ok (.iaload, 1) := by decide +kernel
theorem dX6_goPlay_117 : decode cX6_goPlay 117 = .ok (.iload_n 3, 1) := by decide +kernel
theorem dX6_goPlay_118 : decode cX6_goPlay 118 = .ok (.aload_n 0, 1) := by decide +kernel
theorem dX6_goPlay_119 : decode cX6_goPlay 119 = .ok (.getfield 13, 3) := by decide +kernel
theorem dX6_goPlay_122 : decode cX6_goPlay 122 = .ok (.bipush 6, 2) := by decide +kernel
theorem dX6_goPlay_124 : decode cX6_goPlay 124 = .ok (.iload 4, 2) := by decide +kernel
theorem dX6_goPlay_126 : decode cX6_goPlay 126 = .ok (.imul, 1) := by decide +kernel
theorem dX6_goPlay_127 : decode cX6_goPlay 127 = .ok (.iconst 4, 1) := by decide +kernel
theorem dX6_goPlay_128 : decode cX6_goPlay 128 = .ok (.iadd, 1) := by decide +kernel
theorem dX6_goPlay_129 : decode cX6_goPlay 129 = .ok (.iaload, 1) := by decide +kernel
theorem dX6_goPlay_130 : decode cX6_goPlay 130 = .ok (.aload_n 0, 1) := by decide +kernel
theorem dX6_goPlay_131 : decode cX6_goPlay 131 = .ok (.getfield 16, 3) := by decide +kernel
theorem dX6_goPlay_134 : decode cX6_goPlay 134 = .ok (.iconst 3, 1) := by decide +kernel
theorem dX6_goPlay_135 : decode cX6_goPlay 135 = .ok (.iload_n 2, 1) := by decide +kernel
theorem dX6_goPlay_136 : decode cX6_goPlay 136 = .ok (.imul, 1) := by decide +kernel
theorem dX6_goPlay_137 : decode cX6_goPlay 137 = .ok (.iaload, 1) := by decide +kernel
theorem dX6_goPlay_138 : decode cX6_goPlay 138 = .ok (.if_icmp .ne 7, 3) := by decide +kernel
theorem dX6_goPlay_141 : decode cX6_goPlay 141 = .ok (.iconst 2, 1) := by decide +kernel
theorem dX6_goPlay_142 : decode cX6_goPlay 142 = .ok (.goto 4, 3) := by decide +kernel
theorem dX6_goPlay_145 : decode cX6_goPlay 145 = .ok (.iconst 0, 1) := by decide +kernel
theorem dX6_goPlay_146 : decode cX6_goPlay 146 = .ok (.iadd, 1) := by decide +kernel
theorem dX6_goPlay_147 : decode cX6_goPlay 147 = .ok (.iadd, 1) := by decide +kernel
theorem dX6_goPlay_148 : decode cX6_goPlay 148 = .ok (.iastore, 1) := by decide +kernel
theorem dX6_goPlay_149 : decode cX6_goPlay 149 = .ok (.aload_n 1, 1) := by decide +kernel
theorem dX6_goPlay_150 : decode cX6_goPlay 150 = .ok (.iload 4, 2) := by decide +kernel
theorem dX6_goPlay_152 : decode cX6_goPlay 152 = .ok (.aload_n 1, 1) := by decide +kernel
theorem dX6_goPlay_153 : decode cX6_goPlay 153 = .ok (.iload 4, 2) := by decide +kernel
theorem dX6_goPlay_155 : decode cX6_goPlay 155 = .ok (.iaload, 1) := by decide +kernel
theorem dX6_goPlay_156 : decode cX6_goPlay 156 = .ok (.bipush 20, 2) := by decide +kernel
theorem dX6_goPlay_158 : decode cX6_goPlay 158 = .ok (.if_icmp .le 8, 3) := by decide +kernel
theorem dX6_goPlay_161 : decode cX6_goPlay 161 = .ok (.bipush 20, 2) := by decide +kernel
theorem dX6_goPlay_163 : decode cX6_goPlay 163 = .ok (.goto 7, 3) := by decide +kernel
theorem dX6_goPlay_166 : decode cX6_goPlay 166 = .ok (.aload_n 1, 1) := by decide +kernel
theorem dX6_goPlay_167 : decode cX6_goPlay 167 = .ok (.iload 4, 2) := by decide +kernel
theorem dX6_goPlay_169 : decode cX6_goPlay 169 = .ok (.iaload, 1) := by decide +kernel
theorem dX6_goPlay_170 : decode cX6_goPlay 170 = .ok (.iastore, 1) := by decide +kernel
theorem dX6_goPlay_171 : decode cX6_goPlay 171 = .ok (.iinc 4 1, 3) := by decide +kernel
theorem dX6_goPlay_174 : decode cX6_goPlay 174 = .ok (.goto (-129), 3) := by decide +kernel
theorem dX6_goPlay_177 : decode cX6_goPlay 177 = .ok (.iconst 0, 1) := by decide +kernel
theorem dX6_goPlay_178 : decode cX6_goPlay 178 = .ok (.istore 4, 2) := by decide +kernel
theorem dX6_goPlay_180 : decode cX6_goPlay 180 = .ok (.iload 4, 2) := by decide +kernel
theorem dX6_goPlay_182 : decode cX6_goPlay 182 = .ok (.aload_n 0, 1) := by decide +kernel
theorem dX6_goPlay_183 : decode cX6_goPlay 183 = .ok (.getfield 51, 3) := by decide +kernel
theorem dX6_goPlay_186 : decode cX6_goPlay 186 = .ok (.if_icmp .ge 67, 3) := by decide +kernel
theorem dX6_goPlay_189 : decode cX6_goPlay 189 = .ok (.aload_n 1, 1) := by decide +kernel
theorem dX6_goPlay_190 : decode cX6_goPlay 190 = .ok (.bipush 13, 2) := by decide +kernel
theorem dX6_goPlay_192 : decode cX6_goPlay 192 = .ok (.iaload, 1) := by decide +kernel
theorem dX6_goPlay_193 : decode cX6_goPlay 193 = .ok (.iload 4, 2) := by decide +kernel
theorem dX6_goPlay_195 : decode cX6_goPlay 195 = .ok (.invokestatic 116, 3) := by decide +kernel
theorem dX6_goPlay_198 : decode cX6_goPlay 198 = .ok (.ifCond .eq 49, 3) := by decide +kernel
theorem dX6_goPlay_201 : decode cX6_goPlay 201 = .ok (.aload_n 1, 1) := by decide +kernel
theorem dX6_goPlay_202 : decode cX6_goPlay 202 = .ok (.bipush 12, 2) := by decide +kernel
theorem dX6_goPlay_204 : decode cX6_goPlay 204 = .ok (.iaload, 1) := by decide +kernel
theorem dX6_goPlay_205 : decode cX6_goPlay 205 = .ok (.invokestatic 120, 3) := by decide +kernel
theorem dX6_goPlay_208 : decode cX6_goPlay 208 = .ok (.aload_n 0, 1) := by decide +kernel
theorem dX6_goPlay_209 : decode cX6_goPlay 209 = .ok (.getfield 13, 3) := by decide +kernel
theorem dX6_goPlay_212 : decode cX6_goPlay 212 = .ok (.bipush 6, 2) := by decide +kernel
theorem dX6_goPlay_214 : decode cX6_goPlay 214 = .ok (.iload 4, 2) := by decide +kernel
theorem dX6_goPlay_216 : decode cX6_goPlay 216 = .ok (.imul, 1) := by decide +kernel
theorem dX6_goPlay_217 : decode cX6_goPlay 217 = .ok (.iconst 5, 1) := by decide +kernel
theorem dX6_goPlay_218 : decode cX6_goPlay 218 = .ok (.iadd, 1) := by decide +kernel
theorem dX6_goPlay_219 : decode cX6_goPlay 219 = .ok (.iaload, 1) := by decide +kernel
theorem dX6_goPlay_220 : decode cX6_goPlay 220 = .ok (.if_icmp .lt 27, 3) := by decide +kernel
theorem dX6_goPlay_223 : decode cX6_goPlay 223 = .ok (.aload_n 1, 1) := by decide +kernel
theorem dX6_goPlay_224 : decode cX6_goPlay 224 = .ok (.bipush 12, 2) := by decide +kernel
theorem dX6_goPlay_226 : decode cX6_goPlay 226 = .ok (.dup2, 1) := by decide +kernel
theorem dX6_goPlay_227 : decode cX6_goPlay 227 = .ok (.iaload, 1) := by decide +kernel
theorem dX6_goPlay_228 : decode cX6_goPlay 228 = .ok (.iconst 1, 1) := by decide +kernel
theorem dX6_goPlay_229 : decode cX6_goPlay 229 = .ok (.iload 4, 2) := by decide +kernel
theorem dX6_goPlay_231 : decode cX6_goPlay 231 = .ok (.ishl, 1) := by decide +kernel
theorem dX6_goPlay_232 : decode cX6_goPlay 232 = .ok (.ior, 1) := by decide +kernel
theorem dX6_goPlay_233 : decode cX6_goPlay 233 = .ok (.iastore, 1) := by decide +kernel
theorem dX6_goPlay_234 : decode cX6_goPlay 234 = .ok (.aload_n 1, 1) := by decide +kernel
theorem dX6_goPlay_235 : decode cX6_goPlay 235 = .ok (.bipush 13, 2) := by decide +kernel
theorem dX6_goPlay_237 : decode cX6_goPlay 237 = .ok (.dup2, 1) := by decide +kernel
theorem dX6_goPlay_238 : decode cX6_goPlay 238 = .ok (.iaload, 1) := by decide +kernel
theorem dX6_goPlay_239 : decode cX6_goPlay 239 = .ok (.iconst 1, 1) := by decide +kernel
theorem dX6_goPlay_240 : decode cX6_goPlay 240 = .ok (.iload 4, 2) := by decide +kernel
theorem dX6_goPlay_242 : decode cX6_goPlay 242 = .ok (.ishl, 1) := by decide +kernel
theorem dX6_goPlay_243 : decode cX6_goPlay 243 = .ok (.iconst (-1), 1) := by decide +kernel
theorem dX6_goPlay_244 : decode cX6_goPlay 244 = .ok (.ixor, 1) := by decide +kernel
theorem dX6_goPlay_245 : decode cX6_goPlay 245 = .ok (.iand, 1) := by decide +kernel
theorem dX6_goPlay_246 : decode cX6_goPlay 246 = .ok (.iastore, 1) := by decide +kernel
theorem dX6_goPlay_247 : decode cX6_goPlay 247 = .ok (.iinc 4 1, 3) := by decide +kernel
theorem dX6_goPlay_250 : decode cX6_goPlay 250 = .ok (.goto (-70), 3) := by decide +kernel
theorem dX6_goPlay_253 : decode cX6_goPlay 253 = .ok (.aload_n 1, 1) := by decide +kernel
theorem dX6_goPlay_254 : decode cX6_goPlay 254 = .ok (.bipush 17, 2) := by decide +kernel
theorem dX6_goPlay_256 : decode cX6_goPlay 256 = .ok (.iload_n 2, 1) := by decide +kernel
theorem dX6_goPlay_257 : decode cX6_goPlay 257 = .ok (.iadd, 1) := by decide +kernel
theorem dX6_goPlay_258 : decode cX6_goPlay 258 = .ok (.dup2, 1) := by decide +kernel
theorem dX6_goPlay_259 : decode cX6_goPlay 259 = .ok (.iaload, 1) := by decide +kernel
theorem dX6_goPlay_260 : decode cX6_goPlay 260 = .ok (.iconst 1, 1) := by decide +kernel
theorem dX6_goPlay_261 : decode cX6_goPlay 261 = .ok (.iadd, 1) := by decide +kernel
theorem dX6_goPlay_262 : decode cX6_goPlay 262 = .ok (.iastore, 1) := by decide +kernel
theorem dX6_goPlay_263 : decode cX6_goPlay 263 = .ok (.aload_n 1, 1) := by decide +kernel
theorem dX6_goPlay_264 : decode cX6_goPlay 264 = .ok (.bipush 14, 2) := by decide +kernel
theorem dX6_goPlay_266 : decode cX6_goPlay 266 = .ok (.dup2, 1) := by decide +kernel
theorem dX6_goPlay_267 : decode cX6_goPlay 267 = .ok (.iaload, 1) := by decide +kernel
theorem dX6_goPlay_268 : decode cX6_goPlay 268 = .ok (.aload_n 0, 1) := by decide +kernel
theorem dX6_goPlay_269 : decode cX6_goPlay 269 = .ok (.getfield 16, 3) := by decide +kernel
theorem dX6_goPlay_272 : decode cX6_goPlay 272 = .ok (.iconst 3, 1) := by decide +kernel
theorem dX6_goPlay_273 : decode cX6_goPlay 273 = .ok (.iload_n 2, 1) := by decide +kernel
theorem dX6_goPlay_274 : decode cX6_goPlay 274 = .ok (.imul, 1) := by decide +kernel
theorem dX6_goPlay_275 : decode cX6_goPlay 275 = .ok (.iconst 1, 1) := by decide +kernel
theorem dX6_goPlay_276 : decode cX6_goPlay 276 = .ok (.iadd, 1) := by decide +kernel
theorem dX6_goPlay_277 : decode cX6_goPlay 277 = .ok (.iaload, 1) := by decide +kernel
theorem dX6_goPlay_278 : decode cX6_goPlay 278 = .ok (.iadd, 1) := by decide +kernel
theorem dX6_goPlay_279 : decode cX6_goPlay 279 = .ok (.iastore, 1) := by decide +kernel
theorem dX6_goPlay_280 : decode cX6_goPlay 280 = .ok (.aload_n 1, 1) := by decide +kernel
theorem dX6_goPlay_281 : decode cX6_goPlay 281 = .ok (.bipush 12, 2) := by decide +kernel
theorem dX6_goPlay_283 : decode cX6_goPlay 283 = .ok (.iaload, 1) := by decide +kernel
theorem dX6_goPlay_284 : decode cX6_goPlay 284 = .ok (.invokestatic 120, 3) := by decide +kernel
theorem dX6_goPlay_287 : decode cX6_goPlay 287 = .ok (.ireturn, 1) := by decide +kernel
set_option maxRecDepth 20000 in
theorem ggX6_goRound_X6_has : GoodIn wsX6_goRound wsX6_has := goodIn_r _ [7] (by decide +kernel) (by decide +kernel)
set_option maxRecDepth 20000 in
theorem gX6_goRound_X6_has : GoodIn wsX6_goRound (va_wsS RX6 116 yX6_has wsX6_has) := goodIn_app (goodIn_of _ (by decide +kernel)) ggX6_goRound_X6_has
set_option maxRecDepth 20000 in
theorem ggX6_goRound_X6_giftOf : GoodIn wsX6_goRound wsX6_giftOf := goodIn_r _ [10] (by decide +kernel) (by decide +kernel)
set_option maxRecDepth 20000 in
theorem gX6_goRound_X6_giftOf : GoodIn wsX6_goRound (va_wsS RX6 107 yX6_giftOf wsX6_giftOf) := goodIn_app (goodIn_of _ (by decide +kernel)) ggX6_goRound_X6_giftOf
theorem dX6_goRound_0 : decode cX6_goRound 0 = .ok (.aload_n 1, 1) := by decide +kernel
theorem dX6_goRound_1 : decode cX6_goRound 1 = .ok (.bipush 15, 2) := by decide +kernel
theorem dX6_goRound_3 : decode cX6_goRound 3 = .ok (.iaload, 1) := by decide +kernel
theorem dX6_goRound_4 : decode cX6_goRound 4 = .ok (.istore_n 3, 1) := by decide +kernel
theorem dX6_goRound_5 : decode cX6_goRound 5 = .ok (.aload_n 0, 1) := by decide +kernel
theorem dX6_goRound_6 : decode cX6_goRound 6 = .ok (.iconst 0, 1) := by decide +kernel
theorem dX6_goRound_7 : decode cX6_goRound 7 = .ok (.putfield 123, 3) := by decide +kernel
theorem dX6_goRound_10 : decode cX6_goRound 10 = .ok (.iconst 0, 1) := by decide +kernel
theorem dX6_goRound_11 : decode cX6_goRound 11 = .ok (.istore 4, 2) := by decide +kernel
theorem dX6_goRound_13 : decode cX6_goRound 13 = .ok (.iload 4, 2) := by decide +kernel
theorem dX6_goRound_15 : decode cX6_goRound 15 = .ok (.iconst 4, 1) := by decide +kernel
theorem dX6_goRound_16 : decode cX6_goRound 16 = .ok (.if_icmp .ge 226, 3) := by decide +kernel
theorem dX6_goRound_19 : decode cX6_goRound 19 = .ok (.iload_n 2, 1) := by decide +kernel
theorem dX6_goRound_20 : decode cX6_goRound 20 = .ok (.ifCond .ne 8, 3) := by decide +kernel
theorem dX6_goRound_23 : decode cX6_goRound 23 = .ok (.iload 4, 2) := by decide +kernel
theorem dX6_goRound_25 : decode cX6_goRound 25 = .ok (.goto 7, 3) := by decide +kernel
theorem dX6_goRound_28 : decode cX6_goRound 28 = .ok (.iconst 3, 1) := by decide +kernel
theorem dX6_goRound_29 : decode cX6_goRound 29 = .ok (.iload 4, 2) := by decide +kernel
theorem dX6_goRound_31 : decode cX6_goRound 31 = .ok (.isub, 1) := by decide +kernel
theorem dX6_goRound_32 : decode cX6_goRound 32 = .ok (.istore 5, 2) := by decide +kernel
theorem dX6_goRound_34 : decode cX6_goRound 34 = .ok (.iconst 0, 1) := by decide +kernel
theorem dX6_goRound_35 : decode cX6_goRound 35 = .ok (.istore 6, 2) := by decide +kernel
theorem dX6_goRound_37 : decode cX6_goRound 37 = .ok (.iload 6, 2) := by decide +kernel
theorem dX6_goRound_39 : decode cX6_goRound 39 = .ok (.aload_n 0, 1) := by decide +kernel
theorem dX6_goRound_40 : decode cX6_goRound 40 = .ok (.getfield 51, 3) := by decide +kernel
theorem dX6_goRound_43 : decode cX6_goRound 43 = .ok (.if_icmp .ge 80, 3) := by decide +kernel
theorem dX6_goRound_46 : decode cX6_goRound 46 = .ok (.aload_n 1, 1) := by decide +kernel
theorem dX6_goRound_47 : decode cX6_goRound 47 = .ok (.bipush 12, 2) := by decide +kernel
theorem dX6_goRound_49 : decode cX6_goRound 49 = .ok (.iaload, 1) := by decide +kernel
theorem dX6_goRound_50 : decode cX6_goRound 50 = .ok (.iload 6, 2) := by decide +kernel
theorem dX6_goRound_52 : decode cX6_goRound 52 = .ok (.invokestatic 116, 3) := by decide +kernel
theorem dX6_goRound_55 : decode cX6_goRound 55 = .ok (.ifCond .eq 62, 3) := by decide +kernel
theorem dX6_goRound_58 : decode cX6_goRound 58 = .ok (.aload_n 0, 1) := by decide +kernel
theorem dX6_goRound_59 : decode cX6_goRound 59 = .ok (.getfield 13, 3) := by decide +kernel
theorem dX6_goRound_62 : decode cX6_goRound 62 = .ok (.bipush 6, 2) := by decide +kernel
theorem dX6_goRound_64 : decode cX6_goRound 64 = .ok (.iload 6, 2) := by decide +kernel
theorem dX6_goRound_66 : decode cX6_goRound 66 = .ok (.imul, 1) := by decide +kernel
theorem dX6_goRound_67 : decode cX6_goRound 67 = .ok (.iaload, 1) := by decide +kernel
theorem dX6_goRound_68 : decode cX6_goRound 68 = .ok (.iload 5, 2) := by decide +kernel
theorem dX6_goRound_70 : decode cX6_goRound 70 = .ok (.if_icmp .ne 47, 3) := by decide +kernel
theorem dX6_goRound_73 : decode cX6_goRound 73 = .ok (.aload_n 1, 1) := by decide +kernel
theorem dX6_goRound_74 : decode cX6_goRound 74 = .ok (.iload 6, 2) := by decide +kernel
theorem dX6_goRound_76 : decode cX6_goRound 76 = .ok (.invokestatic 107, 3) := by decide +kernel
theorem dX6_goRound_79 : decode cX6_goRound 79 = .ok (.istore 7, 2) := by decide +kernel
theorem dX6_goRound_81 : decode cX6_goRound 81 = .ok (.aload_n 1, 1) := by decide +kernel
theorem dX6_goRound_82 : decode cX6_goRound 82 = .ok (.bipush 15, 2) := by decide +kernel
theorem dX6_goRound_84 : decode cX6_goRound 84 = .ok (.dup2, 1) := by decide +kernel
theorem dX6_goRound_85 : decode cX6_goRound 85 = .ok (.iaload, 1) := by decide +kernel
theorem dX6_goRound_86 : decode cX6_goRound 86 = .ok (.iload 7, 2) := by decide +kernel
theorem dX6_goRound_88 : decode cX6_goRound 88 = .ok (.iadd, 1) := by decide +kernel
theorem dX6_goRound_89 : decode cX6_goRound 89 = .ok (.iastore, 1) := by decide +kernel
theorem dX6_goRound_90 : decode cX6_goRound 90 = .ok (.aload_n 1, 1) := by decide +kernel
theorem dX6_goRound_91 : decode cX6_goRound 91 = .ok (.bipush 16, 2) := by decide +kernel
theorem dX6_goRound_93 : decode cX6_goRound 93 = .ok (.iload 7, 2) := by decide +kernel
theorem dX6_goRound_95 : decode cX6_goRound 95 = .ok (.aload_n 1, 1) := by decide +kernel
theorem dX6_goRound_96 : decode cX6_goRound 96 = .ok (.bipush 16, 2) := by decide +kernel
theorem dX6_goRound_98 : decode cX6_goRound 98 = .ok (.iaload, 1) := by decide +kernel
theorem dX6_goRound_99 : decode cX6_goRound 99 = .ok (.if_icmp .le 8, 3) := by decide +kernel
theorem dX6_goRound_102 : decode cX6_goRound 102 = .ok (.iload 7, 2) := by decide +kernel
theorem dX6_goRound_104 : decode cX6_goRound 104 = .ok (.goto 7, 3) := by decide +kernel
theorem dX6_goRound_107 : decode cX6_goRound 107 = .ok (.aload_n 1, 1) := by decide +kernel
theorem dX6_goRound_108 : decode cX6_goRound 108 = .ok (.bipush 16, 2) := by decide +kernel
theorem dX6_goRound_110 : decode cX6_goRound 110 = .ok (.iaload, 1) := by decide +kernel
theorem dX6_goRound_111 : decode cX6_goRound 111 = .ok (.iastore, 1) := by decide +kernel
theorem dX6_goRound_112 : decode cX6_goRound 112 = .ok (.aload_n 1, 1) := by decide +kernel
theorem dX6_goRound_113 : decode cX6_goRound 113 = .ok (.iload 6, 2) := by decide +kernel
theorem dX6_goRound_115 : decode cX6_goRound 115 = .ok (.iconst 0, 1) := by decide +kernel
theorem dX6_goRound_116 : decode cX6_goRound 116 = .ok (.iastore, 1) := by decide +kernel
theorem dX6_goRound_117 : decode cX6_goRound 117 = .ok (.iinc 6 1, 3) := by decide +kernel
theorem dX6_goRound_120 : decode cX6_goRound 120 = .ok (.goto (-83), 3) := by decide +kernel
theorem dX6_goRound_123 : decode cX6_goRound 123 = .ok (.iconst 0, 1) := by decide +kernel
theorem dX6_goRound_124 : decode cX6_goRound 124 = .ok (.istore 6, 2) := by decide +kernel
theorem dX6_goRound_126 : decode cX6_goRound 126 = .ok (.iload 6, 2) := by decide +kernel
theorem dX6_goRound_128 : decode cX6_goRound 128 = .ok (.aload_n 0, 1) := by decide +kernel
theorem dX6_goRound_129 : decode cX6_goRound 129 = .ok (.getfield 51, 3) := by decide +kernel
theorem dX6_goRound_132 : decode cX6_goRound 132 = .ok (.if_icmp .ge 104, 3) := by decide +kernel
theorem dX6_goRound_135 : decode cX6_goRound 135 = .ok (.iload_n 2, 1) := by decide +kernel
theorem dX6_goRound_136 : decode cX6_goRound 136 = .ok (.ifCond .ne 19, 3) := by decide +kernel
theorem dX6_goRound_139 : decode cX6_goRound 139 = .ok (.aload_n 0, 1) := by decide +kernel
theorem dX6_goRound_140 : decode cX6_goRound 140 = .ok (.getfield 13, 3) := by decide +kernel
theorem dX6_goRound_143 : decode cX6_goRound 143 = .ok (.bipush 6, 2) := by decide +kernel
theorem dX6_goRound_145 : decode cX6_goRound 145 = .ok (.iload 6, 2) := by decide +kernel
theorem dX6_goRound_147 : decode cX6_goRound 147 = .ok (.imul, 1) := by decide +kernel
theorem dX6_goRound_148 : decode cX6_goRound 148 = .ok (.iaload, 1) := by decide +kernel
theorem dX6_goRound_149 : decode cX6_goRound 149 = .ok (.iload 5, 2) := by decide +kernel
theorem dX6_goRound_151 : decode cX6_goRound 151 = .ok (.isub, 1) := by decide +kernel
theorem dX6_goRound_152 : decode cX6_goRound 152 = .ok (.goto 16, 3) := by decide +kernel
theorem dX6_goRound_155 : decode cX6_goRound 155 = .ok (.iload 5, 2) := by decide +kernel
theorem dX6_goRound_157 : decode cX6_goRound 157 = .ok (.aload_n 0, 1) := by decide +kernel
theorem dX6_goRound_158 : decode cX6_goRound 158 = .ok (.getfield 13, 3) := by decide +kernel
theorem dX6_goRound_161 : decode cX6_goRound 161 = .ok (.bipush 6, 2) := by decide +kernel
theorem dX6_goRound_163 : decode cX6_goRound 163 = .ok (.iload 6, 2) := by decide +kernel
theorem dX6_goRound_165 : decode cX6_goRound 165 = .ok (.imul, 1) := by decide +kernel
theorem dX6_goRound_166 : decode cX6_goRound 166 = .ok (.iaload, 1) := by decide +kernel
theorem dX6_goRound_167 : decode cX6_goRound 167 = .ok (.isub, 1) := by decide +kernel
theorem dX6_goRound_168 : decode cX6_goRound 168 = .ok (.istore 7, 2) := by decide +kernel
theorem dX6_goRound_170 : decode cX6_goRound 170 = .ok (.aload_n 1, 1) := by decide +kernel
theorem dX6_goRound_171 : decode cX6_goRound 171 = .ok (.bipush 12, 2) := by decide +kernel
theorem dX6_goRound_173 : decode cX6_goRound 173 = .ok (.iaload, 1) := by decide +kernel
theorem dX6_goRound_174 : decode cX6_goRound 174 = .ok (.iload 6, 2) := by decide +kernel
theorem dX6_goRound_176 : decode cX6_goRound 176 = .ok (.invokestatic 116, 3) := by decide +kernel
theorem dX6_goRound_179 : decode cX6_goRound 179 = .ok (.ifCond .eq 51, 3) := by decide +kernel
theorem dX6_goRound_182 : decode cX6_goRound 182 = .ok (.iload 7, 2) := by decide +kernel
theorem dX6_goRound_184 : decode cX6_goRound 184 = .ok (.ifCond .le 46, 3) := by decide +kernel
theorem dX6_goRound_187 : decode cX6_goRound 187 = .ok (.iload 7, 2) := by decide +kernel
theorem dX6_goRound_189 : decode cX6_goRound 189 = .ok (.aload_n 0, 1) := by decide +kernel
theorem dX6_goRound_190 : decode cX6_goRound 190 = .ok (.getfield 13, 3) := by decide +kernel
theorem dX6_goRound_193 : decode cX6_goRound 193 = .ok (.bipush 6, 2) := by decide +kernel
theorem dX6_goRound_195 : decode cX6_goRound 195 = .ok (.iload 6, 2) := by decide +kernel
theorem dX6_goRound_197 : decode cX6_goRound 197 = .ok (.imul, 1) := by decide +kernel
theorem dX6_goRound_198 : decode cX6_goRound 198 = .ok (.iconst 3, 1) := by decide +kernel
theorem dX6_goRound_199 : decode cX6_goRound 199 = .ok (.iadd, 1) := by decide +kernel
theorem dX6_goRound_200 : decode cX6_goRound 200 = .ok (.iaload, 1) := by decide +kernel
theorem dX6_goRound_201 : decode cX6_goRound 201 = .ok (.if_icmp .gt 29, 3) := by decide +kernel
theorem dX6_goRound_204 : decode cX6_goRound 204 = .ok (.aload_n 0, 1) := by decide +kernel
theorem dX6_goRound_205 : decode cX6_goRound 205 = .ok (.dup, 1) := by decide +kernel
theorem dX6_goRound_206 : decode cX6_goRound 206 = .ok (.getfield 123, 3) := by decide +kernel
theorem dX6_goRound_209 : decode cX6_goRound 209 = .ok (.iconst 1, 1) := by decide +kernel
theorem dX6_goRound_210 : decode cX6_goRound 210 = .ok (.iload 6, 2) := by decide +kernel
theorem dX6_goRound_212 : decode cX6_goRound 212 = .ok (.ishl, 1) := by decide +kernel
theorem dX6_goRound_213 : decode cX6_goRound 213 = .ok (.ior, 1) := by decide +kernel
theorem dX6_goRound_214 : decode cX6_goRound 214 = .ok (.putfield 123, 3) := by decide +kernel
theorem dX6_goRound_217 : decode cX6_goRound 217 = .ok (.aload_n 1, 1) := by decide +kernel
theorem dX6_goRound_218 : decode cX6_goRound 218 = .ok (.bipush 12, 2) := by decide +kernel
theorem dX6_goRound_220 : decode cX6_goRound 220 = .ok (.dup2, 1) := by decide +kernel
theorem dX6_goRound_221 : decode cX6_goRound 221 = .ok (.iaload, 1) := by decide +kernel
theorem dX6_goRound_222 : decode cX6_goRound 222 = .ok (.iconst 1, 1) := by decide +kernel
theorem dX6_goRound_223 : decode cX6_goRound 223 = .ok (.iload 6, 2) := by decide +kernel
theorem dX6_goRound_225 : decode cX6_goRound 225 = .ok (.ishl, 1) := by decide +kernel
theorem dX6_goRound_226 : decode cX6_goRound 226 = .ok (.iconst (-1), 1) := by decide +kernel
theorem dX6_goRound_227 : decode cX6_goRound 227 = .ok (.ixor, 1) := by decide +kernel
theorem dX6_goRound_228 : decode cX6_goRound 228 = .ok (.iand, 1) := by decide +kernel
theorem dX6_goRound_229 : decode cX6_goRound 229 = .ok (.iastore, 1) := by decide +kernel
theorem dX6_goRound_230 : decode cX6_goRound 230 = .ok (.iinc 6 1, 3) := by decide +kernel
theorem dX6_goRound_233 : decode cX6_goRound 233 = .ok (.goto (-107), 3) := by decide +kernel
theorem dX6_goRound_236 : decode cX6_goRound 236 = .ok (.iinc 4 1, 3) := by decide +kernel
theorem dX6_goRound_239 : decode cX6_goRound 239 = .ok (.goto (-226), 3) := by decide +kernel
theorem dX6_goRound_242 : decode cX6_goRound 242 = .ok (.aload_n 1, 1) := by decide +kernel
theorem dX6_goRound_243 : decode cX6_goRound 243 = .ok (.bipush 14, 2) := by decide +kernel
theorem dX6_goRound_245 : decode cX6_goRound 245 = .ok (.dup2, 1) := by decide +kernel
theorem dX6_goRound_246 : decode cX6_goRound 246 = .ok (.iaload, 1) := by decide +kernel
theorem dX6_goRound_247 : decode cX6_goRound 247 = .ok (.iconst 1, 1) := by decide +kernel
theorem dX6_goRound_248 : decode cX6_goRound 248 = .ok (.iadd, 1) := by decide +kernel
theorem dX6_goRound_249 : decode cX6_goRound 249 = .ok (.iastore, 1) := by decide +kernel
theorem dX6_goRound_250 : decode cX6_goRound 250 = .ok (.aload_n 1, 1) := by decide +kernel
theorem dX6_goRound_251 : decode cX6_goRound 251 = .ok (.bipush 15, 2) := by decide +kernel
theorem dX6_goRound_253 : decode cX6_goRound 253 = .ok (.iaload, 1) := by decide +kernel
theorem dX6_goRound_254 : decode cX6_goRound 254 = .ok (.iload_n 3, 1) := by decide +kernel
theorem dX6_goRound_255 : decode cX6_goRound 255 = .ok (.isub, 1) := by decide +kernel
theorem dX6_goRound_256 : decode cX6_goRound 256 = .ok (.ireturn, 1) := by decide +kernel
set_option maxRecDepth 20000 in
theorem ggX6_play_X6_noTune : GoodIn wsX6_play wsX6_noTune := goodIn_r _ [7, 8, 9, 10, 6, 11, 31, 32, 33, 34, 35, 36, 37, 38, 39, 40, 41, 42, 43, 44, 45, 46, 47, 48, 49, 50, 51, 52, 53] (by decide +kernel) (by decide +kernel)
set_option maxRecDepth 20000 in
theorem gX6_play_X6_noTune : GoodIn wsX6_play (wsV RX6 111 RX6 yX6_noTune wsX6_noTune) := goodIn_app (goodIn_of _ (by decide +kernel)) ggX6_play_X6_noTune
set_option maxRecDepth 20000 in
theorem ggX6_play_X6_note : GoodIn wsX6_play wsX6_note := goodIn_r _ [15, 16, 17, 2, 31, 32, 33, 34, 35, 36, 37, 38, 39, 40, 41, 42, 43, 44, 45, 46, 47, 48, 49, 50, 51, 52, 53] (by decide +kernel) (by decide +kernel)
set_option maxRecDepth 20000 in
theorem gX6_play_X6_note : GoodIn wsX6_play (wsV RX6 126 RX6 yX6_note wsX6_note) := goodIn_app (goodIn_of _ (by decide +kernel)) ggX6_play_X6_note
set_option maxRecDepth 20000 in
theorem ggX6_play_X6_goPlay : GoodIn wsX6_play wsX6_goPlay := goodIn_r _ [21, 22, 23, 24, 25, 26, 6, 27, 28, 29, 30, 31, 32, 33, 34, 35, 36, 37, 38, 39, 40, 41, 42, 43, 44, 45, 46, 47, 48, 49, 50, 51, 52, 53] (by decide +kernel) (by decide +kernel)
set_option maxRecDepth 20000 in
theorem gX6_play_X6_goPlay : GoodIn wsX6_play (wsV RX6 129 RX6 yX6_goPlay wsX6_goPlay) := goodIn_app (goodIn_of _ (by decide +kernel)) ggX6_play_X6_goPlay
theorem dX6_play_0 : decode cX6_play 0 = .ok (.aload_n 0, 1) := by decide +kernel
theorem dX6_play_1 : decode cX6_play 1 = .ok (.iconst 0, 1) := by decide +kernel
theorem dX6_play_2 : decode cX6_play 2 = .ok (.putfield 47, 3) := by decide +kernel
theorem dX6_play_5 : decode cX6_play 5 = .ok (.aload_n 0, 1) := by decide +kernel
theorem dX6_play_6 : decode cX6_play 6 = .ok (.iload_n 1, 1) := by decide +kernel
theorem dX6_play_7 : decode cX6_play 7 = .ok (.invokevirtual 111, 3) := by decide +kernel
theorem dX6_play_10 : decode cX6_play 10 = .ok (.ifCond .eq 5, 3) := by decide +kernel
theorem dX6_play_13 : decode cX6_play 13 = .ok (.iconst (-1), 1) := by decide +kernel
theorem dX6_play_14 : decode cX6_play 14 = .ok (.ireturn, 1) := by decide +kernel
theorem dX6_play_15 : decode cX6_play 15 = .ok (.aload_n 0, 1) := by decide +kernel
theorem dX6_play_16 : decode cX6_play 16 = .ok (.invokevirtual 126, 3) := by decide +kernel
theorem dX6_play_19 : decode cX6_play 19 = .ok (.aload_n 0, 1) := by decide +kernel
theorem dX6_play_20 : decode cX6_play 20 = .ok (.aload_n 0, 1) := by decide +kernel
theorem dX6_play_21 : decode cX6_play 21 = .ok (.getfield 25, 3) := by decide +kernel
theorem dX6_play_24 : decode cX6_play 24 = .ok (.iload_n 1, 1) := by decide +kernel
theorem dX6_play_25 : decode cX6_play 25 = .ok (.invokevirtual 129, 3) := by decide +kernel
theorem dX6_play_28 : decode cX6_play 28 = .ok (.ireturn, 1) := by decide +kernel
set_option maxRecDepth 20000 in
theorem ggX6_round_X6_in : GoodIn wsX6_round wsX6_in := goodIn_r _ [6] (by decide +kernel) (by decide +kernel)
set_option maxRecDepth 20000 in
theorem gX6_round_X6_in : GoodIn wsX6_round (va_wsS RX6 54 yX6_in wsX6_in) := goodIn_app (goodIn_of _ (by decide +kernel)) ggX6_round_X6_in
set_option maxRecDepth 20000 in
theorem ggX6_round_X6_note : GoodIn wsX6_round wsX6_note := goodIn_r _ [10, 11, 12, 2, 26, 27, 28, 29, 30, 31, 32, 33, 34, 35, 36, 37, 38, 39, 40, 41, 42, 43, 44, 45, 46, 47, 48] (by decide +kernel) (by decide +kernel)
set_option maxRecDepth 20000 in
theorem gX6_round_X6_note : GoodIn wsX6_round (wsV RX6 126 RX6 yX6_note wsX6_note) := goodIn_app (goodIn_of _ (by decide +kernel)) ggX6_round_X6_note
set_option maxRecDepth 20000 in
theorem ggX6_round_X6_goRound : GoodIn wsX6_round wsX6_goRound := goodIn_r _ [16, 17, 18, 19, 20, 21, 5, 22, 23, 24, 25, 26, 27, 28, 29, 30, 31, 32, 33, 34, 35, 36, 37, 38, 39, 40, 41, 42, 43, 44, 45, 46, 47, 48] (by decide +kernel) (by decide +kernel)
set_option maxRecDepth 20000 in
theorem gX6_round_X6_goRound : GoodIn wsX6_round (wsV RX6 132 RX6 yX6_goRound wsX6_goRound) := goodIn_app (goodIn_of _ (by decide +kernel)) ggX6_round_X6_goRound
theorem dX6_round_0 : decode cX6_round 0 = .ok (.aload_n 0, 1) := by decide +kernel
theorem dX6_round_1 : decode cX6_round 1 = .ok (.iconst 0, 1) := by decide +kernel
theorem dX6_round_2 : decode cX6_round 2 = .ok (.putfield 47, 3) := by decide +kernel
theorem dX6_round_5 : decode cX6_round 5 = .ok (.iload_n 1, 1) := by decide +kernel
theorem dX6_round_6 : decode cX6_round 6 = .ok (.i2l, 1) := by decide +kernel
theorem dX6_round_7 : decode cX6_round 7 = .ok (.lconst 0, 1) := by decide +kernel
theorem dX6_round_8 : decode cX6_round 8 = .ok (.lconst 1, 1) := by decide +kernel
theorem dX6_round_9 : decode cX6_round 9 = .ok (.invokestatic 54, 3) := by decide +kernel
theorem dX6_round_12 : decode cX6_round 12 = .ok (.ifCond .ne 6, 3) := by decide +kernel
theorem dX6_round_15 : decode cX6_round 15 = .ok (.bipush (-2), 2) := by decide +kernel
theorem dX6_round_17 : decode cX6_round 17 = .ok (.ireturn, 1) := by decide +kernel
theorem dX6_round_18 : decode cX6_round 18 = .ok (.aload_n 0, 1) := by decide +kernel
theorem dX6_round_19 : decode cX6_round 19 = .ok (.invokevirtual 126, 3) := by decide +kernel
theorem dX6_round_22 : decode cX6_round 22 = .ok (.aload_n 0, 1) := by decide +kernel
theorem dX6_round_23 : decode cX6_round 23 = .ok (.aload_n 0, 1) := by decide +kernel
theorem dX6_round_24 : decode cX6_round 24 = .ok (.getfield 25, 3) := by decide +kernel
theorem dX6_round_27 : decode cX6_round 27 = .ok (.iload_n 1, 1) := by decide +kernel
theorem dX6_round_28 : decode cX6_round 28 = .ok (.invokevirtual 132, 3) := by decide +kernel
theorem dX6_round_31 : decode cX6_round 31 = .ok (.ireturn, 1) := by decide +kernel
set_option maxRecDepth 20000 in
theorem ggX6_bait_X6_in : GoodIn wsX6_bait wsX6_in := goodIn_r _ [7] (by decide +kernel) (by decide +kernel)
set_option maxRecDepth 20000 in
theorem gX6_bait_X6_in : GoodIn wsX6_bait (va_wsS RX6 54 yX6_in wsX6_in) := goodIn_app (goodIn_of _ (by decide +kernel)) ggX6_bait_X6_in
set_option maxRecDepth 20000 in
theorem ggX6_bait_X6_note : GoodIn wsX6_bait wsX6_note := goodIn_r _ [11, 12, 13, 3, 14, 15, 16, 17, 18, 19, 20, 21, 22, 23, 24, 25, 26, 27, 28, 29, 30, 31, 32, 33, 34, 35, 36] (by decide +kernel) (by decide +kernel)
set_option maxRecDepth 20000 in
theorem gX6_bait_X6_note : GoodIn wsX6_bait (wsV RX6 126 RX6 yX6_note wsX6_note) := goodIn_app (goodIn_of _ (by decide +kernel)) ggX6_bait_X6_note
theorem dX6_bait_0 : decode cX6_bait 0 = .ok (.aload_n 0, 1) := by decide +kernel
theorem dX6_bait_1 : decode cX6_bait 1 = .ok (.iconst 0, 1) := by decide +kernel
theorem dX6_bait_2 : decode cX6_bait 2 = .ok (.putfield 47, 3) := by decide +kernel
theorem dX6_bait_5 : decode cX6_bait 5 = .ok (.iload_n 1, 1) := by decide +kernel
theorem dX6_bait_6 : decode cX6_bait 6 = .ok (.i2l, 1) := by decide +kernel
theorem dX6_bait_7 : decode cX6_bait 7 = .ok (.lconst 0, 1) := by decide +kernel
theorem dX6_bait_8 : decode cX6_bait 8 = .ok (.ldc2_w 135, 3) := by decide +kernel
theorem dX6_bait_11 : decode cX6_bait 11 = .ok (.invokestatic 54, 3) := by decide +kernel
theorem dX6_bait_14 : decode cX6_bait 14 = .ok (.ifCond .ne 6, 3) := by decide +kernel
theorem dX6_bait_17 : decode cX6_bait 17 = .ok (.bipush (-2), 2) := by decide +kernel
theorem dX6_bait_19 : decode cX6_bait 19 = .ok (.ireturn, 1) := by decide +kernel
theorem dX6_bait_20 : decode cX6_bait 20 = .ok (.aload_n 0, 1) := by decide +kernel
theorem dX6_bait_21 : decode cX6_bait 21 = .ok (.getfield 25, 3) := by decide +kernel
theorem dX6_bait_24 : decode cX6_bait 24 = .ok (.bipush 16, 2) := by decide +kernel
theorem dX6_bait_26 : decode cX6_bait 26 = .ok (.iaload, 1) := by decide +kernel
theorem dX6_bait_27 : decode cX6_bait 27 = .ok (.istore_n 2, 1) := by decide +kernel
theorem dX6_bait_28 : decode cX6_bait 28 = .ok (.iload_n 2, 1) := by decide +kernel
theorem dX6_bait_29 : decode cX6_bait 29 = .ok (.iload_n 1, 1) := by decide +kernel
theorem dX6_bait_30 : decode cX6_bait 30 = .ok (.if_icmp .ne 6, 3) := by decide +kernel
theorem dX6_bait_33 : decode cX6_bait 33 = .ok (.bipush (-3), 2) := by decide +kernel
theorem dX6_bait_35 : decode cX6_bait 35 = .ok (.ireturn, 1) := by decide +kernel
theorem dX6_bait_36 : decode cX6_bait 36 = .ok (.aload_n 0, 1) := by decide +kernel
theorem dX6_bait_37 : decode cX6_bait 37 = .ok (.invokevirtual 126, 3) := by decide +kernel
theorem dX6_bait_40 : decode cX6_bait 40 = .ok (.aload_n 0, 1) := by decide +kernel
theorem dX6_bait_41 : decode cX6_bait 41 = .ok (.getfield 25, 3) := by decide +kernel
theorem dX6_bait_44 : decode cX6_bait 44 = .ok (.bipush 16, 2) := by decide +kernel
theorem dX6_bait_46 : decode cX6_bait 46 = .ok (.iload_n 1, 1) := by decide +kernel
theorem dX6_bait_47 : decode cX6_bait 47 = .ok (.iastore, 1) := by decide +kernel
theorem dX6_bait_48 : decode cX6_bait 48 = .ok (.iload_n 2, 1) := by decide +kernel
theorem dX6_bait_49 : decode cX6_bait 49 = .ok (.ireturn, 1) := by decide +kernel
theorem dX6_undo_0 : decode cX6_undo 0 = .ok (.aload_n 0, 1) := by decide +kernel
theorem dX6_undo_1 : decode cX6_undo 1 = .ok (.iconst 0, 1) := by decide +kernel
theorem dX6_undo_2 : decode cX6_undo 2 = .ok (.putfield 47, 3) := by decide +kernel
theorem dX6_undo_5 : decode cX6_undo 5 = .ok (.aload_n 0, 1) := by decide +kernel
theorem dX6_undo_6 : decode cX6_undo 6 = .ok (.getfield 97, 3) := by decide +kernel
theorem dX6_undo_9 : decode cX6_undo 9 = .ok (.ifCond .ne 6, 3) := by decide +kernel
theorem dX6_undo_12 : decode cX6_undo 12 = .ok (.bipush (-3), 2) := by decide +kernel
theorem dX6_undo_14 : decode cX6_undo 14 = .ok (.ireturn, 1) := by decide +kernel
theorem dX6_undo_15 : decode cX6_undo 15 = .ok (.aload_n 0, 1) := by decide +kernel
theorem dX6_undo_16 : decode cX6_undo 16 = .ok (.dup, 1) := by decide +kernel
theorem dX6_undo_17 : decode cX6_undo 17 = .ok (.getfield 97, 3) := by decide +kernel
theorem dX6_undo_20 : decode cX6_undo 20 = .ok (.iconst 1, 1) := by decide +kernel
theorem dX6_undo_21 : decode cX6_undo 21 = .ok (.isub, 1) := by decide +kernel
theorem dX6_undo_22 : decode cX6_undo 22 = .ok (.putfield 97, 3) := by decide +kernel
theorem dX6_undo_25 : decode cX6_undo 25 = .ok (.iconst 0, 1) := by decide +kernel
theorem dX6_undo_26 : decode cX6_undo 26 = .ok (.istore_n 1, 1) := by decide +kernel
theorem dX6_undo_27 : decode cX6_undo 27 = .ok (.iload_n 1, 1) := by decide +kernel
theorem dX6_undo_28 : decode cX6_undo 28 = .ok (.bipush 21, 2) := by decide +kernel
theorem dX6_undo_30 : decode cX6_undo 30 = .ok (.if_icmp .ge 29, 3) := by decide +kernel
theorem dX6_undo_33 : decode cX6_undo 33 = .ok (.aload_n 0, 1) := by decide +kernel
theorem dX6_undo_34 : decode cX6_undo 34 = .ok (.getfield 25, 3) := by decide +kernel
theorem dX6_undo_37 : decode cX6_undo 37 = .ok (.iload_n 1, 1) := by decide +kernel
theorem dX6_undo_38 : decode cX6_undo 38 = .ok (.aload_n 0, 1) := by decide +kernel
theorem dX6_undo_39 : decode cX6_undo 39 = .ok (.getfield 31, 3) := by decide +kernel
theorem dX6_undo_42 : decode cX6_undo 42 = .ok (.bipush 21, 2) := by decide +kernel
theorem dX6_undo_44 : decode cX6_undo 44 = .ok (.aload_n 0, 1) := by decide +kernel
theorem dX6_undo_45 : decode cX6_undo 45 = .ok (.getfield 97, 3) := by decide +kernel
theorem dX6_undo_48 : decode cX6_undo 48 = .ok (.imul, 1) := by decide +kernel
theorem dX6_undo_49 : decode cX6_undo 49 = .ok (.iload_n 1, 1) := by decide +kernel
theorem dX6_undo_50 : decode cX6_undo 50 = .ok (.iadd, 1) := by decide +kernel
theorem dX6_undo_51 : decode cX6_undo 51 = .ok (.iaload, 1) := by decide +kernel
theorem dX6_undo_52 : decode cX6_undo 52 = .ok (.iastore, 1) := by decide +kernel
theorem dX6_undo_53 : decode cX6_undo 53 = .ok (.iinc 1 1, 3) := by decide +kernel
theorem dX6_undo_56 : decode cX6_undo 56 = .ok (.goto (-29), 3) := by decide +kernel
theorem dX6_undo_59 : decode cX6_undo 59 = .ok (.aload_n 0, 1) := by decide +kernel
theorem dX6_undo_60 : decode cX6_undo 60 = .ok (.getfield 97, 3) := by decide +kernel
theorem dX6_undo_63 : decode cX6_undo 63 = .ok (.ireturn, 1) := by decide +kernel
theorem dX6_begin_0 : decode cX6_begin 0 = .ok (.iconst 0, 1) := by decide +kernel
theorem dX6_begin_1 : decode cX6_begin 1 = .ok (.istore_n 1, 1) := by decide +kernel
theorem dX6_begin_2 : decode cX6_begin 2 = .ok (.iload_n 1, 1) := by decide +kernel
theorem dX6_begin_3 : decode cX6_begin 3 = .ok (.bipush 21, 2) := by decide +kernel
theorem dX6_begin_5 : decode cX6_begin 5 = .ok (.if_icmp .ge 21, 3) := by decide +kernel
theorem dX6_begin_8 : decode cX6_begin 8 = .ok (.aload_n 0, 1) := by decide +kernel
theorem dX6_begin_9 : decode cX6_begin 9 = .ok (.getfield 28, 3) := by decide +kernel
theorem dX6_begin_12 : decode cX6_begin 12 = .ok (.iload_n 1, 1) := by decide +kernel
theorem dX6_begin_13 : decode cX6_begin 13 = .ok (.aload_n 0, 1) := by decide +kernel
theorem dX6_begin_14 : decode cX6_begin 14 = .ok (.getfield 25, 3) := by decide +kernel
theorem dX6_begin_17 : decode cX6_begin 17 = .ok (.iload_n 1, 1) := by decide +kernel
theorem dX6_begin_18 : decode cX6_begin 18 = .ok (.iaload, 1) := by decide +kernel
theorem dX6_begin_19 : decode cX6_begin 19 = .ok (.iastore, 1) := by decide +kernel
theorem dX6_begin_20 : decode cX6_begin 20 = .ok (.iinc 1 1, 3) := by decide +kernel
theorem dX6_begin_23 : decode cX6_begin 23 = .ok (.goto (-21), 3) := by decide +kernel
theorem dX6_begin_26 : decode cX6_begin 26 = .ok (.return_, 1) := by decide +kernel
set_option maxRecDepth 20000 in
theorem ggX6_would_X6_in : GoodIn wsX6_would wsX6_in := goodIn_r _ [7] (by decide +kernel) (by decide +kernel)
set_option maxRecDepth 20000 in
theorem gX6_would_X6_in : GoodIn wsX6_would (va_wsS RX6 54 yX6_in wsX6_in) := goodIn_app (goodIn_of _ (by decide +kernel)) ggX6_would_X6_in
set_option maxRecDepth 20000 in
theorem ggX6_would_X6_begin : GoodIn wsX6_would wsX6_begin := goodIn_r _ [11, 2, 12, 25, 26, 27, 28, 29, 30, 31, 32, 33, 34, 35, 36, 37, 38, 39, 40, 41, 42, 43, 44, 45, 46, 47] (by decide +kernel) (by decide +kernel)
set_option maxRecDepth 20000 in
theorem gX6_would_X6_begin : GoodIn wsX6_would (wsV RX6 137 RX6 yX6_begin wsX6_begin) := goodIn_app (goodIn_of _ (by decide +kernel)) ggX6_would_X6_begin
set_option maxRecDepth 20000 in
theorem ggX6_would_X6_goRound : GoodIn wsX6_would wsX6_goRound := goodIn_r _ [16, 3, 17, 18, 19, 20, 6, 21, 22, 23, 24, 25, 26, 27, 28, 29, 30, 31, 32, 33, 34, 35, 36, 37, 38, 39, 40, 41, 42, 43, 44, 45, 46, 47] (by decide +kernel) (by decide +kernel)
set_option maxRecDepth 20000 in
theorem gX6_would_X6_goRound : GoodIn wsX6_would (wsV RX6 132 RX6 yX6_goRound wsX6_goRound) := goodIn_app (goodIn_of _ (by decide +kernel)) ggX6_would_X6_goRound
theorem dX6_would_0 : decode cX6_would 0 = .ok (.aload_n 0, 1) := by decide +kernel
theorem dX6_would_1 : decode cX6_would 1 = .ok (.iconst 0, 1) := by decide +kernel
theorem dX6_would_2 : decode cX6_would 2 = .ok (.putfield 47, 3) := by decide +kernel
theorem dX6_would_5 : decode cX6_would 5 = .ok (.iload_n 1, 1) := by decide +kernel
theorem dX6_would_6 : decode cX6_would 6 = .ok (.i2l, 1) := by decide +kernel
theorem dX6_would_7 : decode cX6_would 7 = .ok (.lconst 0, 1) := by decide +kernel
theorem dX6_would_8 : decode cX6_would 8 = .ok (.lconst 1, 1) := by decide +kernel
theorem dX6_would_9 : decode cX6_would 9 = .ok (.invokestatic 54, 3) := by decide +kernel
theorem dX6_would_12 : decode cX6_would 12 = .ok (.ifCond .eq 13, 3) := by decide +kernel
theorem dX6_would_15 : decode cX6_would 15 = .ok (.iload_n 2, 1) := by decide +kernel
theorem dX6_would_16 : decode cX6_would 16 = .ok (.i2l, 1) := by decide +kernel
theorem dX6_would_17 : decode cX6_would 17 = .ok (.lconst 0, 1) := by decide +kernel
theorem dX6_would_18 : decode cX6_would 18 = .ok (.lconst 1, 1) := by decide +kernel
theorem dX6_would_19 : decode cX6_would 19 = .ok (.invokestatic 54, 3) := by decide +kernel
theorem dX6_would_22 : decode cX6_would 22 = .ok (.ifCond .ne 6, 3) := by decide +kernel
theorem dX6_would_25 : decode cX6_would 25 = .ok (.bipush (-2), 2) := by decide +kernel
theorem dX6_would_27 : decode cX6_would 27 = .ok (.ireturn, 1) := by decide +kernel
theorem dX6_would_28 : decode cX6_would 28 = .ok (.aload_n 0, 1) := by decide +kernel
theorem dX6_would_29 : decode cX6_would 29 = .ok (.invokevirtual 137, 3) := by decide +kernel
theorem dX6_would_32 : decode cX6_would 32 = .ok (.aload_n 0, 1) := by decide +kernel
theorem dX6_would_33 : decode cX6_would 33 = .ok (.aload_n 0, 1) := by decide +kernel
theorem dX6_would_34 : decode cX6_would 34 = .ok (.getfield 28, 3) := by decide +kernel
theorem dX6_would_37 : decode cX6_would 37 = .ok (.iload_n 1, 1) := by decide +kernel
theorem dX6_would_38 : decode cX6_would 38 = .ok (.invokevirtual 132, 3) := by decide +kernel
theorem dX6_would_41 : decode cX6_would 41 = .ok (.istore_n 3, 1) := by decide +kernel
theorem dX6_would_42 : decode cX6_would 42 = .ok (.iload_n 2, 1) := by decide +kernel
theorem dX6_would_43 : decode cX6_would 43 = .ok (.ifCond .ne 7, 3) := by decide +kernel
theorem dX6_would_46 : decode cX6_would 46 = .ok (.iload_n 3, 1) := by decide +kernel
theorem dX6_would_47 : decode cX6_would 47 = .ok (.goto 7, 3) := by decide +kernel
theorem dX6_would_50 : decode cX6_would 50 = .ok (.aload_n 0, 1) := by decide +kernel
theorem dX6_would_51 : decode cX6_would 51 = .ok (.getfield 123, 3) := by decide +kernel
theorem dX6_would_54 : decode cX6_would 54 = .ok (.ireturn, 1) := by decide +kernel
theorem dX6_power_0 : decode cX6_power 0 = .ok (.iconst 1, 1) := by decide +kernel
theorem dX6_power_1 : decode cX6_power 1 = .ok (.istore_n 2, 1) := by decide +kernel
theorem dX6_power_2 : decode cX6_power 2 = .ok (.iconst 0, 1) := by decide +kernel
theorem dX6_power_3 : decode cX6_power 3 = .ok (.istore_n 3, 1) := by decide +kernel
theorem dX6_power_4 : decode cX6_power 4 = .ok (.iload_n 3, 1) := by decide +kernel
theorem dX6_power_5 : decode cX6_power 5 = .ok (.iload_n 1, 1) := by decide +kernel
theorem dX6_power_6 : decode cX6_power 6 = .ok (.if_icmp .ge 13, 3) := by decide +kernel
theorem dX6_power_9 : decode cX6_power 9 = .ok (.iload_n 2, 1) := by decide +kernel
theorem dX6_power_10 : decode cX6_power 10 = .ok (.iload_n 0, 1) := by decide +kernel
theorem dX6_power_11 : decode cX6_power 11 = .ok (.imul, 1) := by decide +kernel
theorem dX6_power_12 : decode cX6_power 12 = .ok (.istore_n 2, 1) := by decide +kernel
theorem dX6_power_13 : decode cX6_power 13 = .ok (.iinc 3 1, 3) := by decide +kernel
theorem dX6_power_16 : decode cX6_power 16 = .ok (.goto (-12), 3) := by decide +kernel
theorem dX6_power_19 : decode cX6_power 19 = .ok (.iload_n 2, 1) := by decide +kernel
theorem dX6_power_20 : decode cX6_power 20 = .ok (.ireturn, 1) := by decide +kernel
set_option maxRecDepth 20000 in
theorem ggX6_plan_X6_in : GoodIn wsX6_plan wsX6_in := goodIn_r _ [8] (by decide +kernel) (by decide +kernel)
set_option maxRecDepth 20000 in
theorem gX6_plan_X6_in : GoodIn wsX6_plan (va_wsS RX6 54 yX6_in wsX6_in) := goodIn_app (goodIn_of _ (by decide +kernel)) ggX6_plan_X6_in
set_option maxRecDepth 20000 in
theorem ggX6_plan_X6_power : GoodIn wsX6_plan wsX6_power := goodIn_r _ [11] (by decide +kernel) (by decide +kernel)
set_option maxRecDepth 20000 in
theorem gX6_plan_X6_power : GoodIn wsX6_plan (va_wsS RX6 142 yX6_power wsX6_power) := goodIn_app (goodIn_of _ (by decide +kernel)) ggX6_plan_X6_power
set_option maxRecDepth 20000 in
theorem ggX6_plan_X6_noTune : GoodIn wsX6_plan wsX6_noTune := goodIn_r _ [15, 16, 5, 6, 7, 8, 43, 44, 45, 46, 47, 48, 49, 50, 51, 52, 53, 54, 55, 56, 57, 58, 59, 60, 61, 62, 63, 64, 65] (by decide +kernel) (by decide +kernel)
set_option maxRecDepth 20000 in
theorem gX6_plan_X6_noTune : GoodIn wsX6_plan (wsV RX6 111 RX6 yX6_noTune wsX6_noTune) := goodIn_app (goodIn_of _ (by decide +kernel)) ggX6_plan_X6_noTune
set_option maxRecDepth 20000 in
theorem ggX6_plan_X6_begin : GoodIn wsX6_plan wsX6_begin := goodIn_r _ [20, 4, 21, 43, 44, 45, 46, 47, 48, 49, 50, 51, 52, 53, 54, 55, 56, 57, 58, 59, 60, 61, 62, 63, 64, 65] (by decide +kernel) (by decide +kernel)
set_option maxRecDepth 20000 in
theorem gX6_plan_X6_begin : GoodIn wsX6_plan (wsV RX6 137 RX6 yX6_begin wsX6_begin) := goodIn_app (goodIn_of _ (by decide +kernel)) ggX6_plan_X6_begin
set_option maxRecDepth 20000 in
theorem ggX6_plan_X6_goPlay : GoodIn wsX6_plan wsX6_goPlay := goodIn_r _ [25, 26, 27, 28, 29, 30, 7, 31, 32, 33, 34, 43, 44, 45, 46, 47, 48, 49, 50, 51, 52, 53, 54, 55, 56, 57, 58, 59, 60, 61, 62, 63, 64, 65] (by decide +kernel) (by decide +kernel)
set_option maxRecDepth 20000 in
theorem gX6_plan_X6_goPlay : GoodIn wsX6_plan (wsV RX6 129 RX6 yX6_goPlay wsX6_goPlay) := goodIn_app (goodIn_of _ (by decide +kernel)) ggX6_plan_X6_goPlay
set_option maxRecDepth 20000 in
theorem ggX6_plan_X6_goRound : GoodIn wsX6_plan wsX6_goRound := goodIn_r _ [38, 39, 27, 28, 29, 30, 7, 31, 40, 41, 42, 43, 44, 45, 46, 47, 48, 49, 50, 51, 52, 53, 54, 55, 56, 57, 58, 59, 60, 61, 62, 63, 64, 65] (by decide +kernel) (by decide +kernel)
set_option maxRecDepth 20000 in
theorem gX6_plan_X6_goRound : GoodIn wsX6_plan (wsV RX6 132 RX6 yX6_goRound wsX6_goRound) := goodIn_app (goodIn_of _ (by decide +kernel)) ggX6_plan_X6_goRound
theorem dX6_plan_0 : decode cX6_plan 0 = .ok (.aload_n 0, 1) := by decide +kernel
theorem dX6_plan_1 : decode cX6_plan 1 = .ok (.iconst 0, 1) := by decide +kernel
theorem dX6_plan_2 : decode cX6_plan 2 = .ok (.putfield 47, 3) := by decide +kernel
theorem dX6_plan_5 : decode cX6_plan 5 = .ok (.iload_n 1, 1) := by decide +kernel
theorem dX6_plan_6 : decode cX6_plan 6 = .ok (.i2l, 1) := by decide +kernel
theorem dX6_plan_7 : decode cX6_plan 7 = .ok (.lconst 0, 1) := by decide +kernel
theorem dX6_plan_8 : decode cX6_plan 8 = .ok (.ldc2_w 140, 3) := by decide +kernel
theorem dX6_plan_11 : decode cX6_plan 11 = .ok (.invokestatic 54, 3) := by decide +kernel
theorem dX6_plan_14 : decode cX6_plan 14 = .ok (.ifCond .eq 15, 3) := by decide +kernel
theorem dX6_plan_17 : decode cX6_plan 17 = .ok (.iload_n 2, 1) := by decide +kernel
theorem dX6_plan_18 : decode cX6_plan 18 = .ok (.i2l, 1) := by decide +kernel
theorem dX6_plan_19 : decode cX6_plan 19 = .ok (.lconst 0, 1) := by decide +kernel
theorem dX6_plan_20 : decode cX6_plan 20 = .ok (.ldc2_w 114, 3) := by decide +kernel
theorem dX6_plan_23 : decode cX6_plan 23 = .ok (.invokestatic 54, 3) := by decide +kernel
theorem dX6_plan_26 : decode cX6_plan 26 = .ok (.ifCond .ne 6, 3) := by decide +kernel
theorem dX6_plan_29 : decode cX6_plan 29 = .ok (.bipush (-2), 2) := by decide +kernel
theorem dX6_plan_31 : decode cX6_plan 31 = .ok (.ireturn, 1) := by decide +kernel
theorem dX6_plan_32 : decode cX6_plan 32 = .ok (.bipush (-9), 2) := by decide +kernel
theorem dX6_plan_34 : decode cX6_plan 34 = .ok (.istore_n 3, 1) := by decide +kernel
theorem dX6_plan_35 : decode cX6_plan 35 = .ok (.iconst 0, 1) := by decide +kernel
theorem dX6_plan_36 : decode cX6_plan 36 = .ok (.istore 4, 2) := by decide +kernel
theorem dX6_plan_38 : decode cX6_plan 38 = .ok (.iconst 0, 1) := by decide +kernel
theorem dX6_plan_39 : decode cX6_plan 39 = .ok (.istore 5, 2) := by decide +kernel
theorem dX6_plan_41 : decode cX6_plan 41 = .ok (.iconst 0, 1) := by decide +kernel
theorem dX6_plan_42 : decode cX6_plan 42 = .ok (.istore 6, 2) := by decide +kernel
theorem dX6_plan_44 : decode cX6_plan 44 = .ok (.iload 6, 2) := by decide +kernel
theorem dX6_plan_46 : decode cX6_plan 46 = .ok (.bipush 10, 2) := by decide +kernel
theorem dX6_plan_48 : decode cX6_plan 48 = .ok (.iload_n 1, 1) := by decide +kernel
theorem dX6_plan_49 : decode cX6_plan 49 = .ok (.invokestatic 142, 3) := by decide +kernel
theorem dX6_plan_52 : decode cX6_plan 52 = .ok (.if_icmp .ge 150, 3) := by decide +kernel
theorem dX6_plan_55 : decode cX6_plan 55 = .ok (.iconst 1, 1) := by decide +kernel
theorem dX6_plan_56 : decode cX6_plan 56 = .ok (.istore 7, 2) := by decide +kernel
theorem dX6_plan_58 : decode cX6_plan 58 = .ok (.iconst 0, 1) := by decide +kernel
theorem dX6_plan_59 : decode cX6_plan 59 = .ok (.istore 8, 2) := by decide +kernel
theorem dX6_plan_61 : decode cX6_plan 61 = .ok (.iload 8, 2) := by decide +kernel
theorem dX6_plan_63 : decode cX6_plan 63 = .ok (.iload_n 1, 1) := by decide +kernel
theorem dX6_plan_64 : decode cX6_plan 64 = .ok (.if_icmp .ge 41, 3) := by decide +kernel
theorem dX6_plan_67 : decode cX6_plan 67 = .ok (.iload 7, 2) := by decide +kernel
theorem dX6_plan_69 : decode cX6_plan 69 = .ok (.ifCond .eq 27, 3) := by decide +kernel
theorem dX6_plan_72 : decode cX6_plan 72 = .ok (.aload_n 0, 1) := by decide +kernel
theorem dX6_plan_73 : decode cX6_plan 73 = .ok (.iload 6, 2) := by decide +kernel
theorem dX6_plan_75 : decode cX6_plan 75 = .ok (.bipush 10, 2) := by decide +kernel
theorem dX6_plan_77 : decode cX6_plan 77 = .ok (.iload 8, 2) := by decide +kernel
theorem dX6_plan_79 : decode cX6_plan 79 = .ok (.invokestatic 142, 3) := by decide +kernel
theorem dX6_plan_82 : decode cX6_plan 82 = .ok (.idiv, 1) := by decide +kernel
theorem dX6_plan_83 : decode cX6_plan 83 = .ok (.bipush 10, 2) := by decide +kernel
theorem dX6_plan_85 : decode cX6_plan 85 = .ok (.irem, 1) := by decide +kernel
theorem dX6_plan_86 : decode cX6_plan 86 = .ok (.invokevirtual 111, 3) := by decide +kernel
theorem dX6_plan_89 : decode cX6_plan 89 = .ok (.ifCond .ne 7, 3) := by decide +kernel
theorem dX6_plan_92 : decode cX6_plan 92 = .ok (.iconst 1, 1) := by decide +kernel
theorem dX6_plan_93 : decode cX6_plan 93 = .ok (.goto 4, 3) := by decide +kernel
theorem dX6_plan_96 : decode cX6_plan 96 = .ok (.iconst 0, 1) := by decide +kernel
theorem dX6_plan_97 : decode cX6_plan 97 = .ok (.istore 7, 2) := by decide +kernel
theorem dX6_plan_99 : decode cX6_plan 99 = .ok (.iinc 8 1, 3) := by decide +kernel
theorem dX6_plan_102 : decode cX6_plan 102 = .ok (.goto (-41), 3) := by decide +kernel
theorem dX6_plan_105 : decode cX6_plan 105 = .ok (.iconst 0, 1) := by decide +kernel
theorem dX6_plan_106 : decode cX6_plan 106 = .ok (.istore 8, 2) := by decide +kernel
theorem dX6_plan_108 : decode cX6_plan 108 = .ok (.iload 8, 2) := by decide +kernel
theorem dX6_plan_110 : decode cX6_plan 110 = .ok (.iconst 2, 1) := by decide +kernel
theorem dX6_plan_111 : decode cX6_plan 111 = .ok (.if_icmp .ge 85, 3) := by decide +kernel
theorem dX6_plan_114 : decode cX6_plan 114 = .ok (.iload 7, 2) := by decide +kernel
theorem dX6_plan_116 : decode cX6_plan 116 = .ok (.ifCond .eq 80, 3) := by decide +kernel
theorem dX6_plan_119 : decode cX6_plan 119 = .ok (.aload_n 0, 1) := by decide +kernel
theorem dX6_plan_120 : decode cX6_plan 120 = .ok (.invokevirtual 137, 3) := by decide +kernel
theorem dX6_plan_123 : decode cX6_plan 123 = .ok (.iload_n 1, 1) := by decide +kernel
theorem dX6_plan_124 : decode cX6_plan 124 = .ok (.iconst 1, 1) := by decide +kernel
theorem dX6_plan_125 : decode cX6_plan 125 = .ok (.isub, 1) := by decide +kernel
theorem dX6_plan_126 : decode cX6_plan 126 = .ok (.istore 9, 2) := by decide +kernel
theorem dX6_plan_128 : decode cX6_plan 128 = .ok (.iload 9, 2) := by decide +kernel
theorem dX6_plan_130 : decode cX6_plan 130 = .ok (.ifCond .lt 31, 3) := by decide +kernel
theorem dX6_plan_133 : decode cX6_plan 133 = .ok (.aload_n 0, 1) := by decide +kernel
theorem dX6_plan_134 : decode cX6_plan 134 = .ok (.aload_n 0, 1) := by decide +kernel
theorem dX6_plan_135 : decode cX6_plan 135 = .ok (.getfield 28, 3) := by decide +kernel
theorem dX6_plan_138 : decode cX6_plan 138 = .ok (.iload 6, 2) := by decide +kernel
theorem dX6_plan_140 : decode cX6_plan 140 = .ok (.bipush 10, 2) := by decide +kernel
theorem dX6_plan_142 : decode cX6_plan 142 = .ok (.iload 9, 2) := by decide +kernel
theorem dX6_plan_144 : decode cX6_plan 144 = .ok (.invokestatic 142, 3) := by decide +kernel
theorem dX6_plan_147 : decode cX6_plan 147 = .ok (.idiv, 1) := by decide +kernel
theorem dX6_plan_148 : decode cX6_plan 148 = .ok (.bipush 10, 2) := by decide +kernel
theorem dX6_plan_150 : decode cX6_plan 150 = .ok (.irem, 1) := by decide +kernel
theorem dX6_plan_151 : decode cX6_plan 151 = .ok (.invokevirtual 129, 3) := by decide +kernel
theorem dX6_plan_154 : decode cX6_plan 154 = .ok (.pop, 1) := by decide +kernel
theorem dX6_plan_155 : decode cX6_plan 155 = .ok (.iinc 9 (-1), 3) := by decide +kernel
theorem dX6_plan_158 : decode cX6_plan 158 = .ok (.goto (-30), 3) := by decide +kernel
theorem dX6_plan_161 : decode cX6_plan 161 = .ok (.aload_n 0, 1) := by decide +kernel
theorem dX6_plan_162 : decode cX6_plan 162 = .ok (.aload_n 0, 1) := by decide +kernel
theorem dX6_plan_163 : decode cX6_plan 163 = .ok (.getfield 28, 3) := by decide +kernel
theorem dX6_plan_166 : decode cX6_plan 166 = .ok (.iload 8, 2) := by decide +kernel
theorem dX6_plan_168 : decode cX6_plan 168 = .ok (.invokevirtual 132, 3) := by decide +kernel
theorem dX6_plan_171 : decode cX6_plan 171 = .ok (.istore 9, 2) := by decide +kernel
theorem dX6_plan_173 : decode cX6_plan 173 = .ok (.iload 9, 2) := by decide +kernel
theorem dX6_plan_175 : decode cX6_plan 175 = .ok (.iload_n 3, 1) := by decide +kernel
theorem dX6_plan_176 : decode cX6_plan 176 = .ok (.if_icmp .le 14, 3) := by decide +kernel
theorem dX6_plan_179 : decode cX6_plan 179 = .ok (.iload 9, 2) := by decide +kernel
theorem dX6_plan_181 : decode cX6_plan 181 = .ok (.istore_n 3, 1) := by decide +kernel
theorem dX6_plan_182 : decode cX6_plan 182 = .ok (.iload 6, 2) := by decide +kernel
theorem dX6_plan_184 : decode cX6_plan 184 = .ok (.istore 4, 2) := by decide +kernel
theorem dX6_plan_186 : decode cX6_plan 186 = .ok (.iload 8, 2) := by decide +kernel
theorem dX6_plan_188 : decode cX6_plan 188 = .ok (.istore 5, 2) := by decide +kernel
theorem dX6_plan_190 : decode cX6_plan 190 = .ok (.iinc 8 1, 3) := by decide +kernel
theorem dX6_plan_193 : decode cX6_plan 193 = .ok (.goto (-85), 3) := by decide +kernel
theorem dX6_plan_196 : decode cX6_plan 196 = .ok (.iinc 6 1, 3) := by decide +kernel
theorem dX6_plan_199 : decode cX6_plan 199 = .ok (.goto (-155), 3) := by decide +kernel
theorem dX6_plan_202 : decode cX6_plan 202 = .ok (.iload_n 3, 1) := by decide +kernel
theorem dX6_plan_203 : decode cX6_plan 203 = .ok (.bipush (-9), 2) := by decide +kernel
theorem dX6_plan_205 : decode cX6_plan 205 = .ok (.if_icmp .ne 8, 3) := by decide +kernel
theorem dX6_plan_208 : decode cX6_plan 208 = .ok (.bipush (-9), 2) := by decide +kernel
theorem dX6_plan_210 : decode cX6_plan 210 = .ok (.goto 23, 3) := by decide +kernel
theorem dX6_plan_213 : decode cX6_plan 213 = .ok (.iload_n 2, 1) := by decide +kernel
theorem dX6_plan_214 : decode cX6_plan 214 = .ok (.ifCond .ne 7, 3) := by decide +kernel
theorem dX6_plan_217 : decode cX6_plan 217 = .ok (.iload_n 3, 1) := by decide +kernel
theorem dX6_plan_218 : decode cX6_plan 218 = .ok (.goto 15, 3) := by decide +kernel
theorem dX6_plan_221 : decode cX6_plan 221 = .ok (.iload_n 2, 1) := by decide +kernel
theorem dX6_plan_222 : decode cX6_plan 222 = .ok (.iconst 1, 1) := by decide +kernel
theorem dX6_plan_223 : decode cX6_plan 223 = .ok (.if_icmp .ne 8, 3) := by decide +kernel
theorem dX6_plan_226 : decode cX6_plan 226 = .ok (.iload 4, 2) := by decide +kernel
theorem dX6_plan_228 : decode cX6_plan 228 = .ok (.goto 5, 3) := by decide +kernel
theorem dX6_plan_231 : decode cX6_plan 231 = .ok (.iload 5, 2) := by decide +kernel
theorem dX6_plan_233 : decode cX6_plan 233 = .ok (.ireturn, 1) := by decide +kernel
set_option maxRecDepth 20000 in
theorem ggX6_soon_X6_noTune : GoodIn wsX6_soon wsX6_noTune := goodIn_r _ [7, 8, 9, 10, 6, 11, 38, 39, 40, 41, 42, 43, 44, 45, 46, 47, 48, 49, 50, 51, 52, 53, 54, 55, 56, 57, 58, 59, 60] (by decide +kernel) (by decide +kernel)
set_option maxRecDepth 20000 in
theorem gX6_soon_X6_noTune : GoodIn wsX6_soon (wsV RX6 111 RX6 yX6_noTune wsX6_noTune) := goodIn_app (goodIn_of _ (by decide +kernel)) ggX6_soon_X6_noTune
set_option maxRecDepth 20000 in
theorem ggX6_soon_X6_begin : GoodIn wsX6_soon wsX6_begin := goodIn_r _ [15, 2, 16, 38, 39, 40, 41, 42, 43, 44, 45, 46, 47, 48, 49, 50, 51, 52, 53, 54, 55, 56, 57, 58, 59, 60] (by decide +kernel) (by decide +kernel)
set_option maxRecDepth 20000 in
theorem gX6_soon_X6_begin : GoodIn wsX6_soon (wsV RX6 137 RX6 yX6_begin wsX6_begin) := goodIn_app (goodIn_of _ (by decide +kernel)) ggX6_soon_X6_begin
set_option maxRecDepth 20000 in
theorem ggX6_soon_X6_goPlay : GoodIn wsX6_soon wsX6_goPlay := goodIn_r _ [20, 21, 22, 23, 24, 25, 6, 26, 27, 28, 29, 38, 39, 40, 41, 42, 43, 44, 45, 46, 47, 48, 49, 50, 51, 52, 53, 54, 55, 56, 57, 58, 59, 60] (by decide +kernel) (by decide +kernel)
set_option maxRecDepth 20000 in
theorem gX6_soon_X6_goPlay : GoodIn wsX6_soon (wsV RX6 129 RX6 yX6_goPlay wsX6_goPlay) := goodIn_app (goodIn_of _ (by decide +kernel)) ggX6_soon_X6_goPlay
set_option maxRecDepth 20000 in
theorem ggX6_soon_X6_goRound : GoodIn wsX6_soon wsX6_goRound := goodIn_r _ [33, 34, 22, 23, 24, 25, 6, 26, 35, 36, 37, 38, 39, 40, 41, 42, 43, 44, 45, 46, 47, 48, 49, 50, 51, 52, 53, 54, 55, 56, 57, 58, 59, 60] (by decide +kernel) (by decide +kernel)
set_option maxRecDepth 20000 in
theorem gX6_soon_X6_goRound : GoodIn wsX6_soon (wsV RX6 132 RX6 yX6_goRound wsX6_goRound) := goodIn_app (goodIn_of _ (by decide +kernel)) ggX6_soon_X6_goRound
theorem dX6_soon_0 : decode cX6_soon 0 = .ok (.aload_n 0, 1) := by decide +kernel
theorem dX6_soon_1 : decode cX6_soon 1 = .ok (.iconst 0, 1) := by decide +kernel
theorem dX6_soon_2 : decode cX6_soon 2 = .ok (.putfield 47, 3) := by decide +kernel
theorem dX6_soon_5 : decode cX6_soon 5 = .ok (.aload_n 0, 1) := by decide +kernel
theorem dX6_soon_6 : decode cX6_soon 6 = .ok (.iload_n 1, 1) := by decide +kernel
theorem dX6_soon_7 : decode cX6_soon 7 = .ok (.invokevirtual 111, 3) := by decide +kernel
theorem dX6_soon_10 : decode cX6_soon 10 = .ok (.ifCond .eq 5, 3) := by decide +kernel
theorem dX6_soon_13 : decode cX6_soon 13 = .ok (.iconst (-1), 1) := by decide +kernel
theorem dX6_soon_14 : decode cX6_soon 14 = .ok (.ireturn, 1) := by decide +kernel
theorem dX6_soon_15 : decode cX6_soon 15 = .ok (.bipush (-9), 2) := by decide +kernel
theorem dX6_soon_17 : decode cX6_soon 17 = .ok (.istore_n 2, 1) := by decide +kernel
theorem dX6_soon_18 : decode cX6_soon 18 = .ok (.iconst 0, 1) := by decide +kernel
theorem dX6_soon_19 : decode cX6_soon 19 = .ok (.istore_n 3, 1) := by decide +kernel
theorem dX6_soon_20 : decode cX6_soon 20 = .ok (.iconst 0, 1) := by decide +kernel
theorem dX6_soon_21 : decode cX6_soon 21 = .ok (.istore 4, 2) := by decide +kernel
theorem dX6_soon_23 : decode cX6_soon 23 = .ok (.iload 4, 2) := by decide +kernel
theorem dX6_soon_25 : decode cX6_soon 25 = .ok (.bipush 9, 2) := by decide +kernel
theorem dX6_soon_27 : decode cX6_soon 27 = .ok (.if_icmp .gt 76, 3) := by decide +kernel
theorem dX6_soon_30 : decode cX6_soon 30 = .ok (.aload_n 0, 1) := by decide +kernel
theorem dX6_soon_31 : decode cX6_soon 31 = .ok (.invokevirtual 137, 3) := by decide +kernel
theorem dX6_soon_34 : decode cX6_soon 34 = .ok (.iconst 0, 1) := by decide +kernel
theorem dX6_soon_35 : decode cX6_soon 35 = .ok (.istore 5, 2) := by decide +kernel
theorem dX6_soon_37 : decode cX6_soon 37 = .ok (.iload 5, 2) := by decide +kernel
theorem dX6_soon_39 : decode cX6_soon 39 = .ok (.iload 4, 2) := by decide +kernel
theorem dX6_soon_41 : decode cX6_soon 41 = .ok (.if_icmp .ge 19, 3) := by decide +kernel
theorem dX6_soon_44 : decode cX6_soon 44 = .ok (.aload_n 0, 1) := by decide +kernel
theorem dX6_soon_45 : decode cX6_soon 45 = .ok (.aload_n 0, 1) := by decide +kernel
theorem dX6_soon_46 : decode cX6_soon 46 = .ok (.getfield 28, 3) := by decide +kernel
theorem dX6_soon_49 : decode cX6_soon 49 = .ok (.iload_n 1, 1) := by decide +kernel
theorem dX6_soon_50 : decode cX6_soon 50 = .ok (.invokevirtual 129, 3) := by decide +kernel
theorem dX6_soon_53 : decode cX6_soon 53 = .ok (.pop, 1) := by decide +kernel
theorem dX6_soon_54 : decode cX6_soon 54 = .ok (.iinc 5 1, 3) := by decide +kernel
theorem dX6_soon_57 : decode cX6_soon 57 = .ok (.goto (-20), 3) := by decide +kernel
theorem dX6_soon_60 : decode cX6_soon 60 = .ok (.aload_n 0, 1) := by decide +kernel
theorem dX6_soon_61 : decode cX6_soon 61 = .ok (.aload_n 0, 1) := by decide +kernel
theorem dX6_soon_62 : decode cX6_soon 62 = .ok (.getfield 28, 3) := by decide +kernel
theorem dX6_soon_65 : decode cX6_soon 65 = .ok (.iconst 0, 1) := by decide +kernel
theorem dX6_soon_66 : decode cX6_soon 66 = .ok (.invokevirtual 132, 3) := by decide +kernel
theorem dX6_soon_69 : decode cX6_soon 69 = .ok (.istore 5, 2) := by decide +kernel
theorem dX6_soon_71 : decode cX6_soon 71 = .ok (.iload 5, 2) := by decide +kernel
theorem dX6_soon_73 : decode cX6_soon 73 = .ok (.iload_n 2, 1) := by decide +kernel
theorem dX6_soon_74 : decode cX6_soon 74 = .ok (.if_icmp .le 8, 3) := by decide +kernel
theorem dX6_soon_77 : decode cX6_soon 77 = .ok (.iload 4, 2) := by decide +kernel
theorem dX6_soon_79 : decode cX6_soon 79 = .ok (.goto 4, 3) := by decide +kernel
theorem dX6_soon_82 : decode cX6_soon 82 = .ok (.iload_n 3, 1) := by decide +kernel
theorem dX6_soon_83 : decode cX6_soon 83 = .ok (.istore_n 3, 1) := by decide +kernel
theorem dX6_soon_84 : decode cX6_soon 84 = .ok (.iload 5, 2) := by decide +kernel
theorem dX6_soon_86 : decode cX6_soon 86 = .ok (.iload_n 2, 1) := by decide +kernel
theorem dX6_soon_87 : decode cX6_soon 87 = .ok (.if_icmp .le 8, 3) := by decide +kernel
theorem dX6_soon_90 : decode cX6_soon 90 = .ok (.iload 5, 2) := by decide +kernel
theorem dX6_soon_92 : decode cX6_soon 92 = .ok (.goto 4, 3) := by decide +kernel
theorem dX6_soon_95 : decode cX6_soon 95 = .ok (.iload_n 2, 1) := by decide +kernel
theorem dX6_soon_96 : decode cX6_soon 96 = .ok (.istore_n 2, 1) := by decide +kernel
theorem dX6_soon_97 : decode cX6_soon 97 = .ok (.iinc 4 1, 3) := by decide +kernel
theorem dX6_soon_100 : decode cX6_soon 100 = .ok (.goto (-77), 3) := by decide +kernel
theorem dX6_soon_103 : decode cX6_soon 103 = .ok (.iload_n 3, 1) := by decide +kernel
theorem dX6_soon_104 : decode cX6_soon 104 = .ok (.ireturn, 1) := by decide +kernel
set_option maxRecDepth 20000 in
theorem ggX6_grows_X6_in : GoodIn wsX6_grows wsX6_in := goodIn_r _ [7] (by decide +kernel) (by decide +kernel)
set_option maxRecDepth 20000 in
theorem gX6_grows_X6_in : GoodIn wsX6_grows (va_wsS RX6 54 yX6_in wsX6_in) := goodIn_app (goodIn_of _ (by decide +kernel)) ggX6_grows_X6_in
set_option maxRecDepth 20000 in
theorem ggX6_grows_X6_power : GoodIn wsX6_grows wsX6_power := goodIn_r _ [10] (by decide +kernel) (by decide +kernel)
set_option maxRecDepth 20000 in
theorem gX6_grows_X6_power : GoodIn wsX6_grows (va_wsS RX6 142 yX6_power wsX6_power) := goodIn_app (goodIn_of _ (by decide +kernel)) ggX6_grows_X6_power
set_option maxRecDepth 20000 in
theorem ggX6_grows_X6_begin : GoodIn wsX6_grows wsX6_begin := goodIn_r _ [14, 3, 15, 34, 35, 36, 37, 38, 39, 40, 41, 42, 43, 44, 45, 46, 47, 48, 49, 50, 51, 52, 53, 54, 55, 56] (by decide +kernel) (by decide +kernel)
set_option maxRecDepth 20000 in
theorem gX6_grows_X6_begin : GoodIn wsX6_grows (wsV RX6 137 RX6 yX6_begin wsX6_begin) := goodIn_app (goodIn_of _ (by decide +kernel)) ggX6_grows_X6_begin
set_option maxRecDepth 20000 in
theorem ggX6_grows_X6_noTune : GoodIn wsX6_grows wsX6_noTune := goodIn_r _ [19, 20, 4, 5, 6, 7, 34, 35, 36, 37, 38, 39, 40, 41, 42, 43, 44, 45, 46, 47, 48, 49, 50, 51, 52, 53, 54, 55, 56] (by decide +kernel) (by decide +kernel)
set_option maxRecDepth 20000 in
theorem gX6_grows_X6_noTune : GoodIn wsX6_grows (wsV RX6 111 RX6 yX6_noTune wsX6_noTune) := goodIn_app (goodIn_of _ (by decide +kernel)) ggX6_grows_X6_noTune
set_option maxRecDepth 20000 in
theorem ggX6_grows_X6_goPlay : GoodIn wsX6_grows wsX6_goPlay := goodIn_r _ [24, 25, 26, 27, 28, 29, 6, 30, 31, 32, 33, 34, 35, 36, 37, 38, 39, 40, 41, 42, 43, 44, 45, 46, 47, 48, 49, 50, 51, 52, 53, 54, 55, 56] (by decide +kernel) (by decide +kernel)
set_option maxRecDepth 20000 in
theorem gX6_grows_X6_goPlay : GoodIn wsX6_grows (wsV RX6 129 RX6 yX6_goPlay wsX6_goPlay) := goodIn_app (goodIn_of _ (by decide +kernel)) ggX6_grows_X6_goPlay
set_option maxRecDepth 20000 in
theorem ggX6_grows_X6_many : GoodIn wsX6_grows wsX6_many := goodIn_r _ [33] (by decide +kernel) (by decide +kernel)
set_option maxRecDepth 20000 in
theorem gX6_grows_X6_many : GoodIn wsX6_grows (va_wsS RX6 120 yX6_many wsX6_many) := goodIn_app (goodIn_of _ (by decide +kernel)) ggX6_grows_X6_many
theorem dX6_grows_0 : decode cX6_grows 0 = .ok (.aload_n 0, 1) := by decide +kernel
theorem dX6_grows_1 : decode cX6_grows 1 = .ok (.iconst 0, 1) := by decide +kernel
theorem dX6_grows_2 : decode cX6_grows 2 = .ok (.putfield 47, 3) := by decide +kernel
theorem dX6_grows_5 : decode cX6_grows 5 = .ok (.iload_n 1, 1) := by decide +kernel
theorem dX6_grows_6 : decode cX6_grows 6 = .ok (.i2l, 1) := by decide +kernel
theorem dX6_grows_7 : decode cX6_grows 7 = .ok (.lconst 1, 1) := by decide +kernel
theorem dX6_grows_8 : decode cX6_grows 8 = .ok (.ldc2_w 145, 3) := by decide +kernel
theorem dX6_grows_11 : decode cX6_grows 11 = .ok (.invokestatic 54, 3) := by decide +kernel
theorem dX6_grows_14 : decode cX6_grows 14 = .ok (.ifCond .eq 21, 3) := by decide +kernel
theorem dX6_grows_17 : decode cX6_grows 17 = .ok (.iload_n 2, 1) := by decide +kernel
theorem dX6_grows_18 : decode cX6_grows 18 = .ok (.i2l, 1) := by decide +kernel
theorem dX6_grows_19 : decode cX6_grows 19 = .ok (.lconst 0, 1) := by decide +kernel
theorem dX6_grows_20 : decode cX6_grows 20 = .ok (.bipush 10, 2) := by decide +kernel
theorem dX6_grows_22 : decode cX6_grows 22 = .ok (.iload_n 1, 1) := by decide +kernel
theorem dX6_grows_23 : decode cX6_grows 23 = .ok (.invokestatic 142, 3) := by decide +kernel
theorem dX6_grows_26 : decode cX6_grows 26 = .ok (.iconst 1, 1) := by decide +kernel
theorem dX6_grows_27 : decode cX6_grows 27 = .ok (.isub, 1) := by decide +kernel
theorem dX6_grows_28 : decode cX6_grows 28 = .ok (.i2l, 1) := by decide +kernel
theorem dX6_grows_29 : decode cX6_grows 29 = .ok (.invokestatic 54, 3) := by decide +kernel
theorem dX6_grows_32 : decode cX6_grows 32 = .ok (.ifCond .ne 6, 3) := by decide +kernel
theorem dX6_grows_35 : decode cX6_grows 35 = .ok (.bipush (-2), 2) := by decide +kernel
theorem dX6_grows_37 : decode cX6_grows 37 = .ok (.ireturn, 1) := by decide +kernel
theorem dX6_grows_38 : decode cX6_grows 38 = .ok (.aload_n 0, 1) := by decide +kernel
theorem dX6_grows_39 : decode cX6_grows 39 = .ok (.invokevirtual 137, 3) := by decide +kernel
theorem dX6_grows_42 : decode cX6_grows 42 = .ok (.iload_n 1, 1) := by decide +kernel
theorem dX6_grows_43 : decode cX6_grows 43 = .ok (.iconst 1, 1) := by decide +kernel
theorem dX6_grows_44 : decode cX6_grows 44 = .ok (.isub, 1) := by decide +kernel
theorem dX6_grows_45 : decode cX6_grows 45 = .ok (.istore_n 3, 1) := by decide +kernel
theorem dX6_grows_46 : decode cX6_grows 46 = .ok (.iload_n 3, 1) := by decide +kernel
theorem dX6_grows_47 : decode cX6_grows 47 = .ok (.ifCond .lt 45, 3) := by decide +kernel
theorem dX6_grows_50 : decode cX6_grows 50 = .ok (.iload_n 2, 1) := by decide +kernel
theorem dX6_grows_51 : decode cX6_grows 51 = .ok (.bipush 10, 2) := by decide +kernel
theorem dX6_grows_53 : decode cX6_grows 53 = .ok (.iload_n 3, 1) := by decide +kernel
theorem dX6_grows_54 : decode cX6_grows 54 = .ok (.invokestatic 142, 3) := by decide +kernel
theorem dX6_grows_57 : decode cX6_grows 57 = .ok (.idiv, 1) := by decide +kernel
theorem dX6_grows_58 : decode cX6_grows 58 = .ok (.bipush 10, 2) := by decide +kernel
theorem dX6_grows_60 : decode cX6_grows 60 = .ok (.irem, 1) := by decide +kernel
theorem dX6_grows_61 : decode cX6_grows 61 = .ok (.istore 4, 2) := by decide +kernel
theorem dX6_grows_63 : decode cX6_grows 63 = .ok (.aload_n 0, 1) := by decide +kernel
theorem dX6_grows_64 : decode cX6_grows 64 = .ok (.iload 4, 2) := by decide +kernel
theorem dX6_grows_66 : decode cX6_grows 66 = .ok (.invokevirtual 111, 3) := by decide +kernel
theorem dX6_grows_69 : decode cX6_grows 69 = .ok (.ifCond .eq 6, 3) := by decide +kernel
theorem dX6_grows_72 : decode cX6_grows 72 = .ok (.bipush (-2), 2) := by decide +kernel
theorem dX6_grows_74 : decode cX6_grows 74 = .ok (.ireturn, 1) := by decide +kernel
theorem dX6_grows_75 : decode cX6_grows 75 = .ok (.aload_n 0, 1) := by decide +kernel
theorem dX6_grows_76 : decode cX6_grows 76 = .ok (.aload_n 0, 1) := by decide +kernel
theorem dX6_grows_77 : decode cX6_grows 77 = .ok (.getfield 28, 3) := by decide +kernel
theorem dX6_grows_80 : decode cX6_grows 80 = .ok (.iload 4, 2) := by decide +kernel
theorem dX6_grows_82 : decode cX6_grows 82 = .ok (.invokevirtual 129, 3) := by decide +kernel
theorem dX6_grows_85 : decode cX6_grows 85 = .ok (.pop, 1) := by decide +kernel
theorem dX6_grows_86 : decode cX6_grows 86 = .ok (.iinc 3 (-1), 3) := by decide +kernel
theorem dX6_grows_89 : decode cX6_grows 89 = .ok (.goto (-43), 3) := by decide +kernel
theorem dX6_grows_92 : decode cX6_grows 92 = .ok (.aload_n 0, 1) := by decide +kernel
theorem dX6_grows_93 : decode cX6_grows 93 = .ok (.getfield 28, 3) := by decide +kernel
theorem dX6_grows_96 : decode cX6_grows 96 = .ok (.bipush 12, 2) := by decide +kernel
theorem dX6_grows_98 : decode cX6_grows 98 = .ok (.iaload, 1) := by decide +kernel
theorem dX6_grows_99 : decode cX6_grows 99 = .ok (.invokestatic 120, 3) := by decide +kernel
theorem dX6_grows_102 : decode cX6_grows 102 = .ok (.ireturn, 1) := by decide +kernel
set_option maxRecDepth 20000 in
theorem ggX6_bestBait_X6_in : GoodIn wsX6_bestBait wsX6_in := goodIn_r _ [6] (by decide +kernel) (by decide +kernel)
set_option maxRecDepth 20000 in
theorem gX6_bestBait_X6_in : GoodIn wsX6_bestBait (va_wsS RX6 54 yX6_in wsX6_in) := goodIn_app (goodIn_of _ (by decide +kernel)) ggX6_bestBait_X6_in
set_option maxRecDepth 20000 in
theorem ggX6_bestBait_X6_begin : GoodIn wsX6_bestBait wsX6_begin := goodIn_r _ [10, 2, 11, 25, 26, 27, 28, 29, 30, 31, 32, 33, 34, 35, 36, 37, 38, 39, 40, 41, 42, 43, 44, 45, 46, 47] (by decide +kernel) (by decide +kernel)
set_option maxRecDepth 20000 in
theorem gX6_bestBait_X6_begin : GoodIn wsX6_bestBait (wsV RX6 137 RX6 yX6_begin wsX6_begin) := goodIn_app (goodIn_of _ (by decide +kernel)) ggX6_bestBait_X6_begin
set_option maxRecDepth 20000 in
theorem ggX6_bestBait_X6_goRound : GoodIn wsX6_bestBait wsX6_goRound := goodIn_r _ [15, 16, 17, 18, 19, 20, 5, 21, 22, 23, 24, 25, 26, 27, 28, 29, 30, 31, 32, 33, 34, 35, 36, 37, 38, 39, 40, 41, 42, 43, 44, 45, 46, 47] (by decide +kernel) (by decide +kernel)
set_option maxRecDepth 20000 in
theorem gX6_bestBait_X6_goRound : GoodIn wsX6_bestBait (wsV RX6 132 RX6 yX6_goRound wsX6_goRound) := goodIn_app (goodIn_of _ (by decide +kernel)) ggX6_bestBait_X6_goRound
theorem dX6_bestBait_0 : decode cX6_bestBait 0 = .ok (.aload_n 0, 1) := by decide +kernel
theorem dX6_bestBait_1 : decode cX6_bestBait 1 = .ok (.iconst 0, 1) := by decide +kernel
theorem dX6_bestBait_2 : decode cX6_bestBait 2 = .ok (.putfield 47, 3) := by decide +kernel
theorem dX6_bestBait_5 : decode cX6_bestBait 5 = .ok (.iload_n 1, 1) := by decide +kernel
theorem dX6_bestBait_6 : decode cX6_bestBait 6 = .ok (.i2l, 1) := by decide +kernel
theorem dX6_bestBait_7 : decode cX6_bestBait 7 = .ok (.lconst 0, 1) := by decide +kernel
theorem dX6_bestBait_8 : decode cX6_bestBait 8 = .ok (.lconst 1, 1) := by decide +kernel
theorem dX6_bestBait_9 : decode cX6_bestBait 9 = .ok (.invokestatic 54, 3) := by decide +kernel
theorem dX6_bestBait_12 : decode cX6_bestBait 12 = .ok (.ifCond .ne 6, 3) := by decide +kernel
theorem dX6_bestBait_15 : decode cX6_bestBait 15 = .ok (.bipush (-2), 2) := by decide +kernel
theorem dX6_bestBait_17 : decode cX6_bestBait 17 = .ok (.ireturn, 1) := by decide +kernel
theorem dX6_bestBait_18 : decode cX6_bestBait 18 = .ok (.bipush (-9), 2) := by decide +kernel
theorem dX6_bestBait_20 : decode cX6_bestBait 20 = .ok (.istore_n 2, 1) := by decide +kernel
theorem dX6_bestBait_21 : decode cX6_bestBait 21 = .ok (.iconst 0, 1) := by decide +kernel
theorem dX6_bestBait_22 : decode cX6_bestBait 22 = .ok (.istore_n 3, 1) := by decide +kernel
theorem dX6_bestBait_23 : decode cX6_bestBait 23 = .ok (.iconst 0, 1) := by decide +kernel
theorem dX6_bestBait_24 : decode cX6_bestBait 24 = .ok (.istore 4, 2) := by decide +kernel
theorem dX6_bestBait_26 : decode cX6_bestBait 26 = .ok (.iload 4, 2) := by decide +kernel
theorem dX6_bestBait_28 : decode cX6_bestBait 28 = .ok (.bipush 9, 2) := by decide +kernel
theorem dX6_bestBait_30 : decode cX6_bestBait 30 = .ok (.if_icmp .gt 59, 3) := by decide +kernel
theorem dX6_bestBait_33 : decode cX6_bestBait 33 = .ok (.aload_n 0, 1) := by decide +kernel
theorem dX6_bestBait_34 : decode cX6_bestBait 34 = .ok (.invokevirtual 137, 3) := by decide +kernel
theorem dX6_bestBait_37 : decode cX6_bestBait 37 = .ok (.aload_n 0, 1) := by decide +kernel
theorem dX6_bestBait_38 : decode cX6_bestBait 38 = .ok (.getfield 28, 3) := by decide +kernel
theorem dX6_bestBait_41 : decode cX6_bestBait 41 = .ok (.bipush 16, 2) := by decide +kernel
theorem dX6_bestBait_43 : decode cX6_bestBait 43 = .ok (.iload 4, 2) := by decide +kernel
theorem dX6_bestBait_45 : decode cX6_bestBait 45 = .ok (.iastore, 1) := by decide +kernel
theorem dX6_bestBait_46 : decode cX6_bestBait 46 = .ok (.aload_n 0, 1) := by decide +kernel
theorem dX6_bestBait_47 : decode cX6_bestBait 47 = .ok (.aload_n 0, 1) := by decide +kernel
theorem dX6_bestBait_48 : decode cX6_bestBait 48 = .ok (.getfield 28, 3) := by decide +kernel
theorem dX6_bestBait_51 : decode cX6_bestBait 51 = .ok (.iload_n 1, 1) := by decide +kernel
theorem dX6_bestBait_52 : decode cX6_bestBait 52 = .ok (.invokevirtual 132, 3) := by decide +kernel
theorem dX6_bestBait_55 : decode cX6_bestBait 55 = .ok (.istore 5, 2) := by decide +kernel
theorem dX6_bestBait_57 : decode cX6_bestBait 57 = .ok (.iload 5, 2) := by decide +kernel
theorem dX6_bestBait_59 : decode cX6_bestBait 59 = .ok (.iload_n 2, 1) := by decide +kernel
theorem dX6_bestBait_60 : decode cX6_bestBait 60 = .ok (.if_icmp .le 8, 3) := by decide +kernel
theorem dX6_bestBait_63 : decode cX6_bestBait 63 = .ok (.iload 4, 2) := by decide +kernel
theorem dX6_bestBait_65 : decode cX6_bestBait 65 = .ok (.goto 4, 3) := by decide +kernel
theorem dX6_bestBait_68 : decode cX6_bestBait 68 = .ok (.iload_n 3, 1) := by decide +kernel
theorem dX6_bestBait_69 : decode cX6_bestBait 69 = .ok (.istore_n 3, 1) := by decide +kernel
theorem dX6_bestBait_70 : decode cX6_bestBait 70 = .ok (.iload 5, 2) := by decide +kernel
theorem dX6_bestBait_72 : decode cX6_bestBait 72 = .ok (.iload_n 2, 1) := by decide +kernel
theorem dX6_bestBait_73 : decode cX6_bestBait 73 = .ok (.if_icmp .le 8, 3) := by decide +kernel
theorem dX6_bestBait_76 : decode cX6_bestBait 76 = .ok (.iload 5, 2) := by decide +kernel
theorem dX6_bestBait_78 : decode cX6_bestBait 78 = .ok (.goto 4, 3) := by decide +kernel
theorem dX6_bestBait_81 : decode cX6_bestBait 81 = .ok (.iload_n 2, 1) := by decide +kernel
theorem dX6_bestBait_82 : decode cX6_bestBait 82 = .ok (.istore_n 2, 1) := by decide +kernel
theorem dX6_bestBait_83 : decode cX6_bestBait 83 = .ok (.iinc 4 1, 3) := by decide +kernel
theorem dX6_bestBait_86 : decode cX6_bestBait 86 = .ok (.goto (-60), 3) := by decide +kernel
theorem dX6_bestBait_89 : decode cX6_bestBait 89 = .ok (.iload_n 3, 1) := by decide +kernel
theorem dX6_bestBait_90 : decode cX6_bestBait 90 = .ok (.ireturn, 1) := by decide +kernel
set_option maxRecDepth 20000 in
theorem ggX6_goAct_X6_noTune : GoodIn wsX6_goAct wsX6_noTune := goodIn_r _ [5, 6, 7, 8, 4, 9, 31, 32, 33, 34, 35, 36, 37, 38, 39, 40, 41, 42, 43, 44, 45, 46, 47, 48, 49, 50, 51, 52, 53] (by decide +kernel) (by decide +kernel)
set_option maxRecDepth 20000 in
theorem gX6_goAct_X6_noTune : GoodIn wsX6_goAct (wsV RX6 111 RX6 yX6_noTune wsX6_noTune) := goodIn_app (goodIn_of _ (by decide +kernel)) ggX6_goAct_X6_noTune
set_option maxRecDepth 20000 in
theorem ggX6_goAct_X6_goPlay : GoodIn wsX6_goAct wsX6_goPlay := goodIn_r _ [13, 14, 15, 16, 17, 18, 4, 19, 20, 21, 22, 31, 32, 33, 34, 35, 36, 37, 38, 39, 40, 41, 42, 43, 44, 45, 46, 47, 48, 49, 50, 51, 52, 53] (by decide +kernel) (by decide +kernel)
set_option maxRecDepth 20000 in
theorem gX6_goAct_X6_goPlay : GoodIn wsX6_goAct (wsV RX6 129 RX6 yX6_goPlay wsX6_goPlay) := goodIn_app (goodIn_of _ (by decide +kernel)) ggX6_goAct_X6_goPlay
set_option maxRecDepth 20000 in
theorem ggX6_goAct_X6_goRound : GoodIn wsX6_goAct wsX6_goRound := goodIn_r _ [26, 27, 15, 16, 17, 18, 4, 19, 28, 29, 30, 31, 32, 33, 34, 35, 36, 37, 38, 39, 40, 41, 42, 43, 44, 45, 46, 47, 48, 49, 50, 51, 52, 53] (by decide +kernel) (by decide +kernel)
set_option maxRecDepth 20000 in
theorem gX6_goAct_X6_goRound : GoodIn wsX6_goAct (wsV RX6 132 RX6 yX6_goRound wsX6_goRound) := goodIn_app (goodIn_of _ (by decide +kernel)) ggX6_goAct_X6_goRound
theorem dX6_goAct_0 : decode cX6_goAct 0 = .ok (.iload_n 2, 1) := by decide +kernel
theorem dX6_goAct_1 : decode cX6_goAct 1 = .ok (.iconst 4, 1) := by decide +kernel
theorem dX6_goAct_2 : decode cX6_goAct 2 = .ok (.if_icmp .ge 14, 3) := by decide +kernel
theorem dX6_goAct_5 : decode cX6_goAct 5 = .ok (.aload_n 0, 1) := by decide +kernel
theorem dX6_goAct_6 : decode cX6_goAct 6 = .ok (.iload_n 2, 1) := by decide +kernel
theorem dX6_goAct_7 : decode cX6_goAct 7 = .ok (.invokevirtual 111, 3) := by decide +kernel
theorem dX6_goAct_10 : decode cX6_goAct 10 = .ok (.ifCond .eq 13, 3) := by decide +kernel
theorem dX6_goAct_13 : decode cX6_goAct 13 = .ok (.goto 8, 3) := by decide +kernel
theorem dX6_goAct_16 : decode cX6_goAct 16 = .ok (.iload_n 2, 1) := by decide +kernel
theorem dX6_goAct_17 : decode cX6_goAct 17 = .ok (.iconst 5, 1) := by decide +kernel
theorem dX6_goAct_18 : decode cX6_goAct 18 = .ok (.if_icmp .le 5, 3) := by decide +kernel
theorem dX6_goAct_21 : decode cX6_goAct 21 = .ok (.iconst 0, 1) := by decide +kernel
theorem dX6_goAct_22 : decode cX6_goAct 22 = .ok (.ireturn, 1) := by decide +kernel
theorem dX6_goAct_23 : decode cX6_goAct 23 = .ok (.iload_n 2, 1) := by decide +kernel
theorem dX6_goAct_24 : decode cX6_goAct 24 = .ok (.iconst 4, 1) := by decide +kernel
theorem dX6_goAct_25 : decode cX6_goAct 25 = .ok (.if_icmp .ge 13, 3) := by decide +kernel
theorem dX6_goAct_28 : decode cX6_goAct 28 = .ok (.aload_n 0, 1) := by decide +kernel
theorem dX6_goAct_29 : decode cX6_goAct 29 = .ok (.aload_n 1, 1) := by decide +kernel
theorem dX6_goAct_30 : decode cX6_goAct 30 = .ok (.iload_n 2, 1) := by decide +kernel
theorem dX6_goAct_31 : decode cX6_goAct 31 = .ok (.invokevirtual 129, 3) := by decide +kernel
theorem dX6_goAct_34 : decode cX6_goAct 34 = .ok (.pop, 1) := by decide +kernel
theorem dX6_goAct_35 : decode cX6_goAct 35 = .ok (.goto 12, 3) := by decide +kernel
theorem dX6_goAct_38 : decode cX6_goAct 38 = .ok (.aload_n 0, 1) := by decide +kernel
theorem dX6_goAct_39 : decode cX6_goAct 39 = .ok (.aload_n 1, 1) := by decide +kernel
theorem dX6_goAct_40 : decode cX6_goAct 40 = .ok (.iload_n 2, 1) := by decide +kernel
theorem dX6_goAct_41 : decode cX6_goAct 41 = .ok (.iconst 4, 1) := by decide +kernel
theorem dX6_goAct_42 : decode cX6_goAct 42 = .ok (.isub, 1) := by decide +kernel
theorem dX6_goAct_43 : decode cX6_goAct 43 = .ok (.invokevirtual 132, 3) := by decide +kernel
theorem dX6_goAct_46 : decode cX6_goAct 46 = .ok (.pop, 1) := by decide +kernel
theorem dX6_goAct_47 : decode cX6_goAct 47 = .ok (.iconst 1, 1) := by decide +kernel
theorem dX6_goAct_48 : decode cX6_goAct 48 = .ok (.ireturn, 1) := by decide +kernel
set_option maxRecDepth 20000 in
theorem ggX6_judged_X6_in : GoodIn wsX6_judged wsX6_in := goodIn_r _ [7] (by decide +kernel) (by decide +kernel)
set_option maxRecDepth 20000 in
theorem gX6_judged_X6_in : GoodIn wsX6_judged (va_wsS RX6 54 yX6_in wsX6_in) := goodIn_app (goodIn_of _ (by decide +kernel)) ggX6_judged_X6_in
set_option maxRecDepth 20000 in
theorem ggX6_judged_X6_power : GoodIn wsX6_judged wsX6_power := goodIn_r _ [10] (by decide +kernel) (by decide +kernel)
set_option maxRecDepth 20000 in
theorem gX6_judged_X6_power : GoodIn wsX6_judged (va_wsS RX6 142 yX6_power wsX6_power) := goodIn_app (goodIn_of _ (by decide +kernel)) ggX6_judged_X6_power
set_option maxRecDepth 20000 in
theorem ggX6_judged_X6_begin : GoodIn wsX6_judged wsX6_begin := goodIn_r _ [14, 3, 15, 46, 47, 48, 49, 50, 51, 52, 53, 54, 55, 56, 57, 58, 59, 60, 61, 62, 63, 64, 65, 66, 67, 68] (by decide +kernel) (by decide +kernel)
set_option maxRecDepth 20000 in
theorem gX6_judged_X6_begin : GoodIn wsX6_judged (wsV RX6 137 RX6 yX6_begin wsX6_begin) := goodIn_app (goodIn_of _ (by decide +kernel)) ggX6_judged_X6_begin
set_option maxRecDepth 20000 in
theorem ggX6_judged_X6_goAct : GoodIn wsX6_judged wsX6_goAct := goodIn_r _ [19, 20, 21, 22, 6, 23, 24, 4, 5, 7, 25, 26, 27, 28, 29, 30, 31, 32, 33, 34, 35, 36, 37, 38, 39, 40, 41, 42, 43, 44, 45, 46, 47, 48, 49, 50, 51, 52, 53, 54, 55, 56, 57, 58, 59, 60, 61, 62, 63, 64, 65, 66, 67, 68] (by decide +kernel) (by decide +kernel)
set_option maxRecDepth 20000 in
theorem gX6_judged_X6_goAct : GoodIn wsX6_judged (wsV RX6 149 RX6 yX6_goAct wsX6_goAct) := goodIn_app (goodIn_of _ (by decide +kernel)) ggX6_judged_X6_goAct
theorem dX6_judged_0 : decode cX6_judged 0 = .ok (.aload_n 0, 1) := by decide +kernel
theorem dX6_judged_1 : decode cX6_judged 1 = .ok (.iconst 0, 1) := by decide +kernel
theorem dX6_judged_2 : decode cX6_judged 2 = .ok (.putfield 47, 3) := by decide +kernel
theorem dX6_judged_5 : decode cX6_judged 5 = .ok (.iload_n 1, 1) := by decide +kernel
theorem dX6_judged_6 : decode cX6_judged 6 = .ok (.i2l, 1) := by decide +kernel
theorem dX6_judged_7 : decode cX6_judged 7 = .ok (.lconst 1, 1) := by decide +kernel
theorem dX6_judged_8 : decode cX6_judged 8 = .ok (.ldc2_w 147, 3) := by decide +kernel
theorem dX6_judged_11 : decode cX6_judged 11 = .ok (.invokestatic 54, 3) := by decide +kernel
theorem dX6_judged_14 : decode cX6_judged 14 = .ok (.ifCond .eq 21, 3) := by decide +kernel
theorem dX6_judged_17 : decode cX6_judged 17 = .ok (.iload_n 2, 1) := by decide +kernel
theorem dX6_judged_18 : decode cX6_judged 18 = .ok (.i2l, 1) := by decide +kernel
theorem dX6_judged_19 : decode cX6_judged 19 = .ok (.lconst 0, 1) := by decide +kernel
theorem dX6_judged_20 : decode cX6_judged 20 = .ok (.bipush 10, 2) := by decide +kernel
theorem dX6_judged_22 : decode cX6_judged 22 = .ok (.iload_n 1, 1) := by decide +kernel
theorem dX6_judged_23 : decode cX6_judged 23 = .ok (.invokestatic 142, 3) := by decide +kernel
theorem dX6_judged_26 : decode cX6_judged 26 = .ok (.iconst 1, 1) := by decide +kernel
theorem dX6_judged_27 : decode cX6_judged 27 = .ok (.isub, 1) := by decide +kernel
theorem dX6_judged_28 : decode cX6_judged 28 = .ok (.i2l, 1) := by decide +kernel
theorem dX6_judged_29 : decode cX6_judged 29 = .ok (.invokestatic 54, 3) := by decide +kernel
theorem dX6_judged_32 : decode cX6_judged 32 = .ok (.ifCond .ne 6, 3) := by decide +kernel
theorem dX6_judged_35 : decode cX6_judged 35 = .ok (.bipush (-2), 2) := by decide +kernel
theorem dX6_judged_37 : decode cX6_judged 37 = .ok (.ireturn, 1) := by decide +kernel
theorem dX6_judged_38 : decode cX6_judged 38 = .ok (.aload_n 0, 1) := by decide +kernel
theorem dX6_judged_39 : decode cX6_judged 39 = .ok (.invokevirtual 137, 3) := by decide +kernel
theorem dX6_judged_42 : decode cX6_judged 42 = .ok (.iconst 0, 1) := by decide +kernel
theorem dX6_judged_43 : decode cX6_judged 43 = .ok (.istore_n 3, 1) := by decide +kernel
theorem dX6_judged_44 : decode cX6_judged 44 = .ok (.iload_n 3, 1) := by decide +kernel
theorem dX6_judged_45 : decode cX6_judged 45 = .ok (.iload_n 1, 1) := by decide +kernel
theorem dX6_judged_46 : decode cX6_judged 46 = .ok (.if_icmp .ge 47, 3) := by decide +kernel
theorem dX6_judged_49 : decode cX6_judged 49 = .ok (.aload_n 0, 1) := by decide +kernel
theorem dX6_judged_50 : decode cX6_judged 50 = .ok (.aload_n 0, 1) := by decide +kernel
theorem dX6_judged_51 : decode cX6_judged 51 = .ok (.getfield 28, 3) := by decide +kernel
theorem dX6_judged_54 : decode cX6_judged 54 = .ok (.iload_n 2, 1) := by decide +kernel
theorem dX6_judged_55 : decode cX6_judged 55 = .ok (.bipush 10, 2) := by decide +kernel
theorem dX6_judged_57 : decode cX6_judged 57 = .ok (.iload_n 1, 1) := by decide +kernel
theorem dX6_judged_58 : decode cX6_judged 58 = .ok (.iconst 1, 1) := by decide +kernel
theorem dX6_judged_59 : decode cX6_judged 59 = .ok (.isub, 1) := by decide +kernel
theorem dX6_judged_60 : decode cX6_judged 60 = .ok (.iload_n 3, 1) := by decide +kernel
theorem dX6_judged_61 : decode cX6_judged 61 = .ok (.isub, 1) := by decide +kernel
theorem dX6_judged_62 : decode cX6_judged 62 = .ok (.invokestatic 142, 3) := by decide +kernel
theorem dX6_judged_65 : decode cX6_judged 65 = .ok (.idiv, 1) := by decide +kernel
theorem dX6_judged_66 : decode cX6_judged 66 = .ok (.bipush 10, 2) := by decide +kernel
theorem dX6_judged_68 : decode cX6_judged 68 = .ok (.irem, 1) := by decide +kernel
theorem dX6_judged_69 : decode cX6_judged 69 = .ok (.invokevirtual 149, 3) := by decide +kernel
theorem dX6_judged_72 : decode cX6_judged 72 = .ok (.ifCond .eq 13, 3) := by decide +kernel
theorem dX6_judged_75 : decode cX6_judged 75 = .ok (.aload_n 0, 1) := by decide +kernel
theorem dX6_judged_76 : decode cX6_judged 76 = .ok (.getfield 28, 3) := by decide +kernel
theorem dX6_judged_79 : decode cX6_judged 79 = .ok (.bipush 12, 2) := by decide +kernel
theorem dX6_judged_81 : decode cX6_judged 81 = .ok (.iaload, 1) := by decide +kernel
theorem dX6_judged_82 : decode cX6_judged 82 = .ok (.ifCond .ne 5, 3) := by decide +kernel
theorem dX6_judged_85 : decode cX6_judged 85 = .ok (.iload_n 3, 1) := by decide +kernel
theorem dX6_judged_86 : decode cX6_judged 86 = .ok (.ireturn, 1) := by decide +kernel
theorem dX6_judged_87 : decode cX6_judged 87 = .ok (.iinc 3 1, 3) := by decide +kernel
theorem dX6_judged_90 : decode cX6_judged 90 = .ok (.goto (-46), 3) := by decide +kernel
theorem dX6_judged_93 : decode cX6_judged 93 = .ok (.bipush (-9), 2) := by decide +kernel
theorem dX6_judged_95 : decode cX6_judged 95 = .ok (.ireturn, 1) := by decide +kernel
set_option maxRecDepth 20000 in
theorem ggX6_never_X6_has : GoodIn wsX6_never wsX6_has := goodIn_r _ [8] (by decide +kernel) (by decide +kernel)
set_option maxRecDepth 20000 in
theorem gX6_never_X6_has : GoodIn wsX6_never (va_wsS RX6 116 yX6_has wsX6_has) := goodIn_app (goodIn_of _ (by decide +kernel)) ggX6_never_X6_has
set_option maxRecDepth 20000 in
theorem ggX6_never_X6_many : GoodIn wsX6_never wsX6_many := goodIn_r _ [11] (by decide +kernel) (by decide +kernel)
set_option maxRecDepth 20000 in
theorem gX6_never_X6_many : GoodIn wsX6_never (va_wsS RX6 120 yX6_many wsX6_many) := goodIn_app (goodIn_of _ (by decide +kernel)) ggX6_never_X6_many
theorem dX6_never_0 : decode cX6_never 0 = .ok (.aload_n 0, 1) := by decide +kernel
theorem dX6_never_1 : decode cX6_never 1 = .ok (.iconst 0, 1) := by decide +kernel
theorem dX6_never_2 : decode cX6_never 2 = .ok (.putfield 47, 3) := by decide +kernel
theorem dX6_never_5 : decode cX6_never 5 = .ok (.aload_n 0, 1) := by decide +kernel
theorem dX6_never_6 : decode cX6_never 6 = .ok (.getfield 25, 3) := by decide +kernel
theorem dX6_never_9 : decode cX6_never 9 = .ok (.bipush 12, 2) := by decide +kernel
theorem dX6_never_11 : decode cX6_never 11 = .ok (.iaload, 1) := by decide +kernel
theorem dX6_never_12 : decode cX6_never 12 = .ok (.istore_n 1, 1) := by decide +kernel
theorem dX6_never_13 : decode cX6_never 13 = .ok (.aload_n 0, 1) := by decide +kernel
theorem dX6_never_14 : decode cX6_never 14 = .ok (.getfield 25, 3) := by decide +kernel
theorem dX6_never_17 : decode cX6_never 17 = .ok (.bipush 13, 2) := by decide +kernel
theorem dX6_never_19 : decode cX6_never 19 = .ok (.iaload, 1) := by decide +kernel
theorem dX6_never_20 : decode cX6_never 20 = .ok (.istore_n 2, 1) := by decide +kernel
theorem dX6_never_21 : decode cX6_never 21 = .ok (.iconst 0, 1) := by decide +kernel
theorem dX6_never_22 : decode cX6_never 22 = .ok (.istore_n 3, 1) := by decide +kernel
theorem dX6_never_23 : decode cX6_never 23 = .ok (.iload_n 3, 1) := by decide +kernel
theorem dX6_never_24 : decode cX6_never 24 = .ok (.bipush 6, 2) := by decide +kernel
theorem dX6_never_26 : decode cX6_never 26 = .ok (.if_icmp .ge 71, 3) := by decide +kernel
theorem dX6_never_29 : decode cX6_never 29 = .ok (.iconst 0, 1) := by decide +kernel
theorem dX6_never_30 : decode cX6_never 30 = .ok (.istore 4, 2) := by decide +kernel
theorem dX6_never_32 : decode cX6_never 32 = .ok (.iload 4, 2) := by decide +kernel
theorem dX6_never_34 : decode cX6_never 34 = .ok (.aload_n 0, 1) := by decide +kernel
theorem dX6_never_35 : decode cX6_never 35 = .ok (.getfield 51, 3) := by decide +kernel
theorem dX6_never_38 : decode cX6_never 38 = .ok (.if_icmp .ge 53, 3) := by decide +kernel
theorem dX6_never_41 : decode cX6_never 41 = .ok (.iload_n 2, 1) := by decide +kernel
theorem dX6_never_42 : decode cX6_never 42 = .ok (.iload 4, 2) := by decide +kernel
theorem dX6_never_44 : decode cX6_never 44 = .ok (.invokestatic 116, 3) := by decide +kernel
theorem dX6_never_47 : decode cX6_never 47 = .ok (.ifCond .eq 38, 3) := by decide +kernel
theorem dX6_never_50 : decode cX6_never 50 = .ok (.iload_n 1, 1) := by decide +kernel
theorem dX6_never_51 : decode cX6_never 51 = .ok (.invokestatic 120, 3) := by decide +kernel
theorem dX6_never_54 : decode cX6_never 54 = .ok (.aload_n 0, 1) := by decide +kernel
theorem dX6_never_55 : decode cX6_never 55 = .ok (.getfield 13, 3) := by decide +kernel
theorem dX6_never_58 : decode cX6_never 58 = .ok (.bipush 6, 2) := by decide +kernel
theorem dX6_never_60 : decode cX6_never 60 = .ok (.iload 4, 2) := by decide +kernel
theorem dX6_never_62 : decode cX6_never 62 = .ok (.imul, 1) := by decide +kernel
theorem dX6_never_63 : decode cX6_never 63 = .ok (.iconst 5, 1) := by decide +kernel
theorem dX6_never_64 : decode cX6_never 64 = .ok (.iadd, 1) := by decide +kernel
theorem dX6_never_65 : decode cX6_never 65 = .ok (.iaload, 1) := by decide +kernel
theorem dX6_never_66 : decode cX6_never 66 = .ok (.if_icmp .lt 19, 3) := by decide +kernel
theorem dX6_never_69 : decode cX6_never 69 = .ok (.iload_n 1, 1) := by decide +kernel
theorem dX6_never_70 : decode cX6_never 70 = .ok (.iconst 1, 1) := by decide +kernel
theorem dX6_never_71 : decode cX6_never 71 = .ok (.iload 4, 2) := by decide +kernel
theorem dX6_never_73 : decode cX6_never 73 = .ok (.ishl, 1) := by decide +kernel
theorem dX6_never_74 : decode cX6_never 74 = .ok (.ior, 1) := by decide +kernel
theorem dX6_never_75 : decode cX6_never 75 = .ok (.istore_n 1, 1) := by decide +kernel
theorem dX6_never_76 : decode cX6_never 76 = .ok (.iload_n 2, 1) := by decide +kernel
theorem dX6_never_77 : decode cX6_never 77 = .ok (.iconst 1, 1) := by decide +kernel
theorem dX6_never_78 : decode cX6_never 78 = .ok (.iload 4, 2) := by decide +kernel
theorem dX6_never_80 : decode cX6_never 80 = .ok (.ishl, 1) := by decide +kernel
theorem dX6_never_81 : decode cX6_never 81 = .ok (.iconst (-1), 1) := by decide +kernel
theorem dX6_never_82 : decode cX6_never 82 = .ok (.ixor, 1) := by decide +kernel
theorem dX6_never_83 : decode cX6_never 83 = .ok (.iand, 1) := by decide +kernel
theorem dX6_never_84 : decode cX6_never 84 = .ok (.istore_n 2, 1) := by decide +kernel
theorem dX6_never_85 : decode cX6_never 85 = .ok (.iinc 4 1, 3) := by decide +kernel
theorem dX6_never_88 : decode cX6_never 88 = .ok (.goto (-56), 3) := by decide +kernel
theorem dX6_never_91 : decode cX6_never 91 = .ok (.iinc 3 1, 3) := by decide +kernel
theorem dX6_never_94 : decode cX6_never 94 = .ok (.goto (-71), 3) := by decide +kernel
theorem dX6_never_97 : decode cX6_never 97 = .ok (.iload_n 2, 1) := by decide +kernel
theorem dX6_never_98 : decode cX6_never 98 = .ok (.ireturn, 1) := by decide +kernel
theorem dX6_worth_0 : decode cX6_worth 0 = .ok (.iload_n 0, 1) := by decide +kernel
theorem dX6_worth_1 : decode cX6_worth 1 = .ok (.iload_n 1, 1) := by decide +kernel
theorem dX6_worth_2 : decode cX6_worth 2 = .ok (.if_icmp .le 9, 3) := by decide +kernel
theorem dX6_worth_5 : decode cX6_worth 5 = .ok (.iconst 2, 1) := by decide +kernel
theorem dX6_worth_6 : decode cX6_worth 6 = .ok (.iload_n 2, 1) := by decide +kernel
theorem dX6_worth_7 : decode cX6_worth 7 = .ok (.imul, 1) := by decide +kernel
theorem dX6_worth_8 : decode cX6_worth 8 = .ok (.goto 13, 3) := by decide +kernel
theorem dX6_worth_11 : decode cX6_worth 11 = .ok (.iload_n 0, 1) := by decide +kernel
theorem dX6_worth_12 : decode cX6_worth 12 = .ok (.iload_n 1, 1) := by decide +kernel
theorem dX6_worth_13 : decode cX6_worth 13 = .ok (.if_icmp .ne 7, 3) := by decide +kernel
theorem dX6_worth_16 : decode cX6_worth 16 = .ok (.iload_n 2, 1) := by decide +kernel
theorem dX6_worth_17 : decode cX6_worth 17 = .ok (.goto 4, 3) := by decide +kernel
theorem dX6_worth_20 : decode cX6_worth 20 = .ok (.iconst 0, 1) := by decide +kernel
theorem dX6_worth_21 : decode cX6_worth 21 = .ok (.iload_n 0, 1) := by decide +kernel
theorem dX6_worth_22 : decode cX6_worth 22 = .ok (.iload_n 0, 1) := by decide +kernel
theorem dX6_worth_23 : decode cX6_worth 23 = .ok (.imul, 1) := by decide +kernel
theorem dX6_worth_24 : decode cX6_worth 24 = .ok (.isub, 1) := by decide +kernel
theorem dX6_worth_25 : decode cX6_worth 25 = .ok (.ireturn, 1) := by decide +kernel
set_option maxRecDepth 20000 in
theorem ggX6_louder_X6_in : GoodIn wsX6_louder wsX6_in := goodIn_r _ [6] (by decide +kernel) (by decide +kernel)
set_option maxRecDepth 20000 in
theorem gX6_louder_X6_in : GoodIn wsX6_louder (va_wsS RX6 54 yX6_in wsX6_in) := goodIn_app (goodIn_of _ (by decide +kernel)) ggX6_louder_X6_in
set_option maxRecDepth 20000 in
theorem ggX6_louder_X6_worth : GoodIn wsX6_louder wsX6_worth := goodIn_r _ [9] (by decide +kernel) (by decide +kernel)
set_option maxRecDepth 20000 in
theorem gX6_louder_X6_worth : GoodIn wsX6_louder (va_wsS RX6 155 yX6_worth wsX6_worth) := goodIn_app (goodIn_of _ (by decide +kernel)) ggX6_louder_X6_worth
theorem dX6_louder_0 : decode cX6_louder 0 = .ok (.aload_n 0, 1) := by decide +kernel
theorem dX6_louder_1 : decode cX6_louder 1 = .ok (.iconst 0, 1) := by decide +kernel
theorem dX6_louder_2 : decode cX6_louder 2 = .ok (.putfield 47, 3) := by decide +kernel
theorem dX6_louder_5 : decode cX6_louder 5 = .ok (.iload_n 1, 1) := by decide +kernel
theorem dX6_louder_6 : decode cX6_louder 6 = .ok (.i2l, 1) := by decide +kernel
theorem dX6_louder_7 : decode cX6_louder 7 = .ok (.lconst 1, 1) := by decide +kernel
theorem dX6_louder_8 : decode cX6_louder 8 = .ok (.ldc2_w 153, 3) := by decide +kernel
theorem dX6_louder_11 : decode cX6_louder 11 = .ok (.invokestatic 54, 3) := by decide +kernel
theorem dX6_louder_14 : decode cX6_louder 14 = .ok (.ifCond .eq 13, 3) := by decide +kernel
theorem dX6_louder_17 : decode cX6_louder 17 = .ok (.iload_n 2, 1) := by decide +kernel
theorem dX6_louder_18 : decode cX6_louder 18 = .ok (.i2l, 1) := by decide +kernel
theorem dX6_louder_19 : decode cX6_louder 19 = .ok (.lconst 0, 1) := by decide +kernel
theorem dX6_louder_20 : decode cX6_louder 20 = .ok (.lconst 1, 1) := by decide +kernel
theorem dX6_louder_21 : decode cX6_louder 21 = .ok (.invokestatic 54, 3) := by decide +kernel
theorem dX6_louder_24 : decode cX6_louder 24 = .ok (.ifCond .ne 6, 3) := by decide +kernel
theorem dX6_louder_27 : decode cX6_louder 27 = .ok (.bipush (-2), 2) := by decide +kernel
theorem dX6_louder_29 : decode cX6_louder 29 = .ok (.ireturn, 1) := by decide +kernel
theorem dX6_louder_30 : decode cX6_louder 30 = .ok (.iconst 0, 1) := by decide +kernel
theorem dX6_louder_31 : decode cX6_louder 31 = .ok (.istore_n 3, 1) := by decide +kernel
theorem dX6_louder_32 : decode cX6_louder 32 = .ok (.bipush (-9), 2) := by decide +kernel
theorem dX6_louder_34 : decode cX6_louder 34 = .ok (.istore 4, 2) := by decide +kernel
theorem dX6_louder_36 : decode cX6_louder 36 = .ok (.iconst 0, 1) := by decide +kernel
theorem dX6_louder_37 : decode cX6_louder 37 = .ok (.istore 5, 2) := by decide +kernel
theorem dX6_louder_39 : decode cX6_louder 39 = .ok (.iload 5, 2) := by decide +kernel
theorem dX6_louder_41 : decode cX6_louder 41 = .ok (.bipush 6, 2) := by decide +kernel
theorem dX6_louder_43 : decode cX6_louder 43 = .ok (.if_icmp .ge 131, 3) := by decide +kernel
theorem dX6_louder_46 : decode cX6_louder 46 = .ok (.iconst 0, 1) := by decide +kernel
theorem dX6_louder_47 : decode cX6_louder 47 = .ok (.istore 6, 2) := by decide +kernel
theorem dX6_louder_49 : decode cX6_louder 49 = .ok (.iload 6, 2) := by decide +kernel
theorem dX6_louder_51 : decode cX6_louder 51 = .ok (.bipush 6, 2) := by decide +kernel
theorem dX6_louder_53 : decode cX6_louder 53 = .ok (.if_icmp .ge 115, 3) := by decide +kernel
theorem dX6_louder_56 : decode cX6_louder 56 = .ok (.iconst 1, 1) := by decide +kernel
theorem dX6_louder_57 : decode cX6_louder 57 = .ok (.istore 7, 2) := by decide +kernel
theorem dX6_louder_59 : decode cX6_louder 59 = .ok (.iconst 0, 1) := by decide +kernel
theorem dX6_louder_60 : decode cX6_louder 60 = .ok (.istore 8, 2) := by decide +kernel
theorem dX6_louder_62 : decode cX6_louder 62 = .ok (.iload 8, 2) := by decide +kernel
theorem dX6_louder_64 : decode cX6_louder 64 = .ok (.bipush 6, 2) := by decide +kernel
theorem dX6_louder_66 : decode cX6_louder 66 = .ok (.if_icmp .ge 59, 3) := by decide +kernel
theorem dX6_louder_69 : decode cX6_louder 69 = .ok (.iload 7, 2) := by decide +kernel
theorem dX6_louder_71 : decode cX6_louder 71 = .ok (.ifCond .eq 45, 3) := by decide +kernel
theorem dX6_louder_74 : decode cX6_louder 74 = .ok (.iload 8, 2) := by decide +kernel
theorem dX6_louder_76 : decode cX6_louder 76 = .ok (.iload 6, 2) := by decide +kernel
theorem dX6_louder_78 : decode cX6_louder 78 = .ok (.iload_n 1, 1) := by decide +kernel
theorem dX6_louder_79 : decode cX6_louder 79 = .ok (.invokestatic 155, 3) := by decide +kernel
theorem dX6_louder_82 : decode cX6_louder 82 = .ok (.iload 5, 2) := by decide +kernel
theorem dX6_louder_84 : decode cX6_louder 84 = .ok (.iload 6, 2) := by decide +kernel
theorem dX6_louder_86 : decode cX6_louder 86 = .ok (.iload_n 1, 1) := by decide +kernel
theorem dX6_louder_87 : decode cX6_louder 87 = .ok (.invokestatic 155, 3) := by decide +kernel
theorem dX6_louder_90 : decode cX6_louder 90 = .ok (.if_icmp .gt 26, 3) := by decide +kernel
theorem dX6_louder_93 : decode cX6_louder 93 = .ok (.iload 8, 2) := by decide +kernel
theorem dX6_louder_95 : decode cX6_louder 95 = .ok (.iload 5, 2) := by decide +kernel
theorem dX6_louder_97 : decode cX6_louder 97 = .ok (.iload_n 1, 1) := by decide +kernel
theorem dX6_louder_98 : decode cX6_louder 98 = .ok (.invokestatic 155, 3) := by decide +kernel
theorem dX6_louder_101 : decode cX6_louder 101 = .ok (.iload 6, 2) := by decide +kernel
theorem dX6_louder_103 : decode cX6_louder 103 = .ok (.iload 5, 2) := by decide +kernel
theorem dX6_louder_105 : decode cX6_louder 105 = .ok (.iload_n 1, 1) := by decide +kernel
theorem dX6_louder_106 : decode cX6_louder 106 = .ok (.invokestatic 155, 3) := by decide +kernel
theorem dX6_louder_109 : decode cX6_louder 109 = .ok (.if_icmp .gt 7, 3) := by decide +kernel
theorem dX6_louder_112 : decode cX6_louder 112 = .ok (.iconst 1, 1) := by decide +kernel
theorem dX6_louder_113 : decode cX6_louder 113 = .ok (.goto 4, 3) := by decide +kernel
theorem dX6_louder_116 : decode cX6_louder 116 = .ok (.iconst 0, 1) := by decide +kernel
theorem dX6_louder_117 : decode cX6_louder 117 = .ok (.istore 7, 2) := by decide +kernel
theorem dX6_louder_119 : decode cX6_louder 119 = .ok (.iinc 8 1, 3) := by decide +kernel
theorem dX6_louder_122 : decode cX6_louder 122 = .ok (.goto (-60), 3) := by decide +kernel
theorem dX6_louder_125 : decode cX6_louder 125 = .ok (.iload 7, 2) := by decide +kernel
theorem dX6_louder_127 : decode cX6_louder 127 = .ok (.ifCond .eq 18, 3) := by decide +kernel
theorem dX6_louder_130 : decode cX6_louder 130 = .ok (.iload_n 3, 1) := by decide +kernel
theorem dX6_louder_131 : decode cX6_louder 131 = .ok (.ifCond .ne 14, 3) := by decide +kernel
theorem dX6_louder_134 : decode cX6_louder 134 = .ok (.bipush 10, 2) := by decide +kernel
theorem dX6_louder_136 : decode cX6_louder 136 = .ok (.iload 5, 2) := by decide +kernel
theorem dX6_louder_138 : decode cX6_louder 138 = .ok (.imul, 1) := by decide +kernel
theorem dX6_louder_139 : decode cX6_louder 139 = .ok (.iload 6, 2) := by decide +kernel
theorem dX6_louder_141 : decode cX6_louder 141 = .ok (.iadd, 1) := by decide +kernel
theorem dX6_louder_142 : decode cX6_louder 142 = .ok (.goto 5, 3) := by decide +kernel
theorem dX6_louder_145 : decode cX6_louder 145 = .ok (.iload 4, 2) := by decide +kernel
theorem dX6_louder_147 : decode cX6_louder 147 = .ok (.istore 4, 2) := by decide +kernel
theorem dX6_louder_149 : decode cX6_louder 149 = .ok (.iload_n 3, 1) := by decide +kernel
theorem dX6_louder_150 : decode cX6_louder 150 = .ok (.iload 7, 2) := by decide +kernel
theorem dX6_louder_152 : decode cX6_louder 152 = .ok (.ifCond .eq 7, 3) := by decide +kernel
theorem dX6_louder_155 : decode cX6_louder 155 = .ok (.iconst 1, 1) := by decide +kernel
theorem dX6_louder_156 : decode cX6_louder 156 = .ok (.goto 4, 3) := by decide +kernel
theorem dX6_louder_159 : decode cX6_louder 159 = .ok (.iconst 0, 1) := by decide +kernel
theorem dX6_louder_160 : decode cX6_louder 160 = .ok (.iadd, 1) := by decide +kernel
theorem dX6_louder_161 : decode cX6_louder 161 = .ok (.istore_n 3, 1) := by decide +kernel
theorem dX6_louder_162 : decode cX6_louder 162 = .ok (.iinc 6 1, 3) := by decide +kernel
theorem dX6_louder_165 : decode cX6_louder 165 = .ok (.goto (-116), 3) := by decide +kernel
theorem dX6_louder_168 : decode cX6_louder 168 = .ok (.iinc 5 1, 3) := by decide +kernel
theorem dX6_louder_171 : decode cX6_louder 171 = .ok (.goto (-132), 3) := by decide +kernel
theorem dX6_louder_174 : decode cX6_louder 174 = .ok (.iload_n 2, 1) := by decide +kernel
theorem dX6_louder_175 : decode cX6_louder 175 = .ok (.ifCond .ne 7, 3) := by decide +kernel
theorem dX6_louder_178 : decode cX6_louder 178 = .ok (.iload_n 3, 1) := by decide +kernel
theorem dX6_louder_179 : decode cX6_louder 179 = .ok (.goto 5, 3) := by decide +kernel
theorem dX6_louder_182 : decode cX6_louder 182 = .ok (.iload 4, 2) := by decide +kernel
theorem dX6_louder_184 : decode cX6_louder 184 = .ok (.ireturn, 1) := by decide +kernel
set_option maxRecDepth 20000 in
theorem ggX6_shares_X6_in : GoodIn wsX6_shares wsX6_in := goodIn_r _ [6] (by decide +kernel) (by decide +kernel)
set_option maxRecDepth 20000 in
theorem gX6_shares_X6_in : GoodIn wsX6_shares (va_wsS RX6 54 yX6_in wsX6_in) := goodIn_app (goodIn_of _ (by decide +kernel)) ggX6_shares_X6_in
theorem dX6_shares_0 : decode cX6_shares 0 = .ok (.aload_n 0, 1) := by decide +kernel
theorem dX6_shares_1 : decode cX6_shares 1 = .ok (.iconst 0, 1) := by decide +kernel
theorem dX6_shares_2 : decode cX6_shares 2 = .ok (.putfield 47, 3) := by decide +kernel
theorem dX6_shares_5 : decode cX6_shares 5 = .ok (.iload_n 1, 1) := by decide +kernel
theorem dX6_shares_6 : decode cX6_shares 6 = .ok (.i2l, 1) := by decide +kernel
theorem dX6_shares_7 : decode cX6_shares 7 = .ok (.lconst 0, 1) := by decide +kernel
theorem dX6_shares_8 : decode cX6_shares 8 = .ok (.ldc2_w 159, 3) := by decide +kernel
theorem dX6_shares_11 : decode cX6_shares 11 = .ok (.invokestatic 54, 3) := by decide +kernel
theorem dX6_shares_14 : decode cX6_shares 14 = .ok (.ifCond .eq 27, 3) := by decide +kernel
theorem dX6_shares_17 : decode cX6_shares 17 = .ok (.iload_n 2, 1) := by decide +kernel
theorem dX6_shares_18 : decode cX6_shares 18 = .ok (.i2l, 1) := by decide +kernel
theorem dX6_shares_19 : decode cX6_shares 19 = .ok (.lconst 0, 1) := by decide +kernel
theorem dX6_shares_20 : decode cX6_shares 20 = .ok (.ldc2_w 159, 3) := by decide +kernel
theorem dX6_shares_23 : decode cX6_shares 23 = .ok (.invokestatic 54, 3) := by decide +kernel
theorem dX6_shares_26 : decode cX6_shares 26 = .ok (.ifCond .eq 15, 3) := by decide +kernel
theorem dX6_shares_29 : decode cX6_shares 29 = .ok (.iload_n 3, 1) := by decide +kernel
theorem dX6_shares_30 : decode cX6_shares 30 = .ok (.i2l, 1) := by decide +kernel
theorem dX6_shares_31 : decode cX6_shares 31 = .ok (.lconst 0, 1) := by decide +kernel
theorem dX6_shares_32 : decode cX6_shares 32 = .ok (.ldc2_w 159, 3) := by decide +kernel
theorem dX6_shares_35 : decode cX6_shares 35 = .ok (.invokestatic 54, 3) := by decide +kernel
theorem dX6_shares_38 : decode cX6_shares 38 = .ok (.ifCond .ne 6, 3) := by decide +kernel
theorem dX6_shares_41 : decode cX6_shares 41 = .ok (.bipush (-2), 2) := by decide +kernel
theorem dX6_shares_43 : decode cX6_shares 43 = .ok (.ireturn, 1) := by decide +kernel
theorem dX6_shares_44 : decode cX6_shares 44 = .ok (.iconst 0, 1) := by decide +kernel
theorem dX6_shares_45 : decode cX6_shares 45 = .ok (.istore 4, 2) := by decide +kernel
theorem dX6_shares_47 : decode cX6_shares 47 = .ok (.iload 4, 2) := by decide +kernel
theorem dX6_shares_49 : decode cX6_shares 49 = .ok (.bipush 10, 2) := by decide +kernel
theorem dX6_shares_51 : decode cX6_shares 51 = .ok (.if_icmp .gt 34, 3) := by decide +kernel
theorem dX6_shares_54 : decode cX6_shares 54 = .ok (.iload 4, 2) := by decide +kernel
theorem dX6_shares_56 : decode cX6_shares 56 = .ok (.iload_n 1, 1) := by decide +kernel
theorem dX6_shares_57 : decode cX6_shares 57 = .ok (.imul, 1) := by decide +kernel
theorem dX6_shares_58 : decode cX6_shares 58 = .ok (.bipush 10, 2) := by decide +kernel
theorem dX6_shares_60 : decode cX6_shares 60 = .ok (.idiv, 1) := by decide +kernel
theorem dX6_shares_61 : decode cX6_shares 61 = .ok (.iload_n 2, 1) := by decide +kernel
theorem dX6_shares_62 : decode cX6_shares 62 = .ok (.if_icmp .lt 17, 3) := by decide +kernel
theorem dX6_shares_65 : decode cX6_shares 65 = .ok (.iload 4, 2) := by decide +kernel
theorem dX6_shares_67 : decode cX6_shares 67 = .ok (.iload_n 1, 1) := by decide +kernel
theorem dX6_shares_68 : decode cX6_shares 68 = .ok (.imul, 1) := by decide +kernel
theorem dX6_shares_69 : decode cX6_shares 69 = .ok (.bipush 10, 2) := by decide +kernel
theorem dX6_shares_71 : decode cX6_shares 71 = .ok (.idiv, 1) := by decide +kernel
theorem dX6_shares_72 : decode cX6_shares 72 = .ok (.iload_n 3, 1) := by decide +kernel
theorem dX6_shares_73 : decode cX6_shares 73 = .ok (.if_icmp .lt 6, 3) := by decide +kernel
theorem dX6_shares_76 : decode cX6_shares 76 = .ok (.iload 4, 2) := by decide +kernel
theorem dX6_shares_78 : decode cX6_shares 78 = .ok (.ireturn, 1) := by decide +kernel
theorem dX6_shares_79 : decode cX6_shares 79 = .ok (.iinc 4 1, 3) := by decide +kernel
theorem dX6_shares_82 : decode cX6_shares 82 = .ok (.goto (-35), 3) := by decide +kernel
theorem dX6_shares_85 : decode cX6_shares 85 = .ok (.bipush (-9), 2) := by decide +kernel
theorem dX6_shares_87 : decode cX6_shares 87 = .ok (.ireturn, 1) := by decide +kernel
set_option maxRecDepth 20000 in
theorem ggX6_giftsOf_X6_has : GoodIn wsX6_giftsOf wsX6_has := goodIn_r _ [6] (by decide +kernel) (by decide +kernel)
set_option maxRecDepth 20000 in
theorem gX6_giftsOf_X6_has : GoodIn wsX6_giftsOf (va_wsS RX6 116 yX6_has wsX6_has) := goodIn_app (goodIn_of _ (by decide +kernel)) ggX6_giftsOf_X6_has
set_option maxRecDepth 20000 in
theorem ggX6_giftsOf_X6_giftOf : GoodIn wsX6_giftsOf wsX6_giftOf := goodIn_r _ [9] (by decide +kernel) (by decide +kernel)
set_option maxRecDepth 20000 in
theorem gX6_giftsOf_X6_giftOf : GoodIn wsX6_giftsOf (va_wsS RX6 107 yX6_giftOf wsX6_giftOf) := goodIn_app (goodIn_of _ (by decide +kernel)) ggX6_giftsOf_X6_giftOf
theorem dX6_giftsOf_0 : decode cX6_giftsOf 0 = .ok (.iconst 0, 1) := by decide +kernel
theorem dX6_giftsOf_1 : decode cX6_giftsOf 1 = .ok (.istore_n 2, 1) := by decide +kernel
theorem dX6_giftsOf_2 : decode cX6_giftsOf 2 = .ok (.iconst 0, 1) := by decide +kernel
theorem dX6_giftsOf_3 : decode cX6_giftsOf 3 = .ok (.istore_n 3, 1) := by decide +kernel
theorem dX6_giftsOf_4 : decode cX6_giftsOf 4 = .ok (.iload_n 3, 1) := by decide +kernel
theorem dX6_giftsOf_5 : decode cX6_giftsOf 5 = .ok (.aload_n 0, 1) := by decide +kernel
theorem dX6_giftsOf_6 : decode cX6_giftsOf 6 = .ok (.getfield 51, 3) := by decide +kernel
theorem dX6_giftsOf_9 : decode cX6_giftsOf 9 = .ok (.if_icmp .ge 32, 3) := by decide +kernel
theorem dX6_giftsOf_12 : decode cX6_giftsOf 12 = .ok (.iload_n 2, 1) := by decide +kernel
theorem dX6_giftsOf_13 : decode cX6_giftsOf 13 = .ok (.iload_n 1, 1) := by decide +kernel
theorem dX6_giftsOf_14 : decode cX6_giftsOf 14 = .ok (.iload_n 3, 1) := by decide +kernel
theorem dX6_giftsOf_15 : decode cX6_giftsOf 15 = .ok (.invokestatic 116, 3) := by decide +kernel
theorem dX6_giftsOf_18 : decode cX6_giftsOf 18 = .ok (.ifCond .eq 14, 3) := by decide +kernel
theorem dX6_giftsOf_21 : decode cX6_giftsOf 21 = .ok (.aload_n 0, 1) := by decide +kernel
theorem dX6_giftsOf_22 : decode cX6_giftsOf 22 = .ok (.getfield 25, 3) := by decide +kernel
theorem dX6_giftsOf_25 : decode cX6_giftsOf 25 = .ok (.iload_n 3, 1) := by decide +kernel
theorem dX6_giftsOf_26 : decode cX6_giftsOf 26 = .ok (.invokestatic 107, 3) := by decide +kernel
theorem dX6_giftsOf_29 : decode cX6_giftsOf 29 = .ok (.goto 4, 3) := by decide +kernel
theorem dX6_giftsOf_32 : decode cX6_giftsOf 32 = .ok (.iconst 0, 1) := by decide +kernel
theorem dX6_giftsOf_33 : decode cX6_giftsOf 33 = .ok (.iadd, 1) := by decide +kernel
theorem dX6_giftsOf_34 : decode cX6_giftsOf 34 = .ok (.istore_n 2, 1) := by decide +kernel
theorem dX6_giftsOf_35 : decode cX6_giftsOf 35 = .ok (.iinc 3 1, 3) := by decide +kernel
theorem dX6_giftsOf_38 : decode cX6_giftsOf 38 = .ok (.goto (-34), 3) := by decide +kernel
theorem dX6_giftsOf_41 : decode cX6_giftsOf 41 = .ok (.iload_n 2, 1) := by decide +kernel
theorem dX6_giftsOf_42 : decode cX6_giftsOf 42 = .ok (.ireturn, 1) := by decide +kernel
set_option maxRecDepth 20000 in
theorem ggX6_gave_X6_in : GoodIn wsX6_gave wsX6_in := goodIn_r _ [11] (by decide +kernel) (by decide +kernel)
set_option maxRecDepth 20000 in
theorem gX6_gave_X6_in : GoodIn wsX6_gave (va_wsS RX6 54 yX6_in wsX6_in) := goodIn_app (goodIn_of _ (by decide +kernel)) ggX6_gave_X6_in
set_option maxRecDepth 20000 in
theorem ggX6_gave_X6_giftsOf : GoodIn wsX6_gave wsX6_giftsOf := goodIn_r _ [15, 3, 4, 16, 17, 10, 18, 19, 20, 21, 22, 23, 24, 25, 26, 27, 28, 29, 30, 31, 32, 33, 34, 35, 36, 37, 38, 39, 40, 41, 42, 43, 44] (by decide +kernel) (by decide +kernel)
set_option maxRecDepth 20000 in
theorem gX6_gave_X6_giftsOf : GoodIn wsX6_gave (wsV RX6 161 RX6 yX6_giftsOf wsX6_giftsOf) := goodIn_app (goodIn_of _ (by decide +kernel)) ggX6_gave_X6_giftsOf
set_option maxRecDepth 20000 in
theorem ggX6_gave_X6_has : GoodIn wsX6_gave wsX6_has := goodIn_r _ [18] (by decide +kernel) (by decide +kernel)
set_option maxRecDepth 20000 in
theorem gX6_gave_X6_has : GoodIn wsX6_gave (va_wsS RX6 116 yX6_has wsX6_has) := goodIn_app (goodIn_of _ (by decide +kernel)) ggX6_gave_X6_has
theorem dX6_gave_0 : decode cX6_gave 0 = .ok (.aload_n 0, 1) := by decide +kernel
theorem dX6_gave_1 : decode cX6_gave 1 = .ok (.iconst 0, 1) := by decide +kernel
theorem dX6_gave_2 : decode cX6_gave 2 = .ok (.putfield 47, 3) := by decide +kernel
theorem dX6_gave_5 : decode cX6_gave 5 = .ok (.iload_n 1, 1) := by decide +kernel
theorem dX6_gave_6 : decode cX6_gave 6 = .ok (.i2l, 1) := by decide +kernel
theorem dX6_gave_7 : decode cX6_gave 7 = .ok (.lconst 0, 1) := by decide +kernel
theorem dX6_gave_8 : decode cX6_gave 8 = .ok (.ldc2_w 159, 3) := by decide +kernel
theorem dX6_gave_11 : decode cX6_gave 11 = .ok (.invokestatic 54, 3) := by decide +kernel
theorem dX6_gave_14 : decode cX6_gave 14 = .ok (.ifCond .eq 13, 3) := by decide +kernel
theorem dX6_gave_17 : decode cX6_gave 17 = .ok (.iload_n 2, 1) := by decide +kernel
theorem dX6_gave_18 : decode cX6_gave 18 = .ok (.i2l, 1) := by decide +kernel
theorem dX6_gave_19 : decode cX6_gave 19 = .ok (.lconst 0, 1) := by decide +kernel
theorem dX6_gave_20 : decode cX6_gave 20 = .ok (.lconst 1, 1) := by decide +kernel
theorem dX6_gave_21 : decode cX6_gave 21 = .ok (.invokestatic 54, 3) := by decide +kernel
theorem dX6_gave_24 : decode cX6_gave 24 = .ok (.ifCond .ne 6, 3) := by decide +kernel
theorem dX6_gave_27 : decode cX6_gave 27 = .ok (.bipush (-2), 2) := by decide +kernel
theorem dX6_gave_29 : decode cX6_gave 29 = .ok (.ireturn, 1) := by decide +kernel
theorem dX6_gave_30 : decode cX6_gave 30 = .ok (.iconst 0, 1) := by decide +kernel
theorem dX6_gave_31 : decode cX6_gave 31 = .ok (.istore_n 3, 1) := by decide +kernel
theorem dX6_gave_32 : decode cX6_gave 32 = .ok (.iconst 1, 1) := by decide +kernel
theorem dX6_gave_33 : decode cX6_gave 33 = .ok (.aload_n 0, 1) := by decide +kernel
theorem dX6_gave_34 : decode cX6_gave 34 = .ok (.getfield 51, 3) := by decide +kernel
theorem dX6_gave_37 : decode cX6_gave 37 = .ok (.ishl, 1) := by decide +kernel
theorem dX6_gave_38 : decode cX6_gave 38 = .ok (.iconst 1, 1) := by decide +kernel
theorem dX6_gave_39 : decode cX6_gave 39 = .ok (.isub, 1) := by decide +kernel
theorem dX6_gave_40 : decode cX6_gave 40 = .ok (.istore 4, 2) := by decide +kernel
theorem dX6_gave_42 : decode cX6_gave 42 = .ok (.iconst 0, 1) := by decide +kernel
theorem dX6_gave_43 : decode cX6_gave 43 = .ok (.istore 5, 2) := by decide +kernel
theorem dX6_gave_45 : decode cX6_gave 45 = .ok (.iload 5, 2) := by decide +kernel
theorem dX6_gave_47 : decode cX6_gave 47 = .ok (.iconst 1, 1) := by decide +kernel
theorem dX6_gave_48 : decode cX6_gave 48 = .ok (.aload_n 0, 1) := by decide +kernel
theorem dX6_gave_49 : decode cX6_gave 49 = .ok (.getfield 51, 3) := by decide +kernel
theorem dX6_gave_52 : decode cX6_gave 52 = .ok (.ishl, 1) := by decide +kernel
theorem dX6_gave_53 : decode cX6_gave 53 = .ok (.if_icmp .ge 122, 3) := by decide +kernel
theorem dX6_gave_56 : decode cX6_gave 56 = .ok (.iload 5, 2) := by decide +kernel
theorem dX6_gave_58 : decode cX6_gave 58 = .ok (.aload_n 0, 1) := by decide +kernel
theorem dX6_gave_59 : decode cX6_gave 59 = .ok (.getfield 25, 3) := by decide +kernel
theorem dX6_gave_62 : decode cX6_gave 62 = .ok (.bipush 12, 2) := by decide +kernel
theorem dX6_gave_64 : decode cX6_gave 64 = .ok (.iaload, 1) := by decide +kernel
theorem dX6_gave_65 : decode cX6_gave 65 = .ok (.iconst (-1), 1) := by decide +kernel
theorem dX6_gave_66 : decode cX6_gave 66 = .ok (.ixor, 1) := by decide +kernel
theorem dX6_gave_67 : decode cX6_gave 67 = .ok (.iand, 1) := by decide +kernel
theorem dX6_gave_68 : decode cX6_gave 68 = .ok (.ifCond .ne 17, 3) := by decide +kernel
theorem dX6_gave_71 : decode cX6_gave 71 = .ok (.aload_n 0, 1) := by decide +kernel
theorem dX6_gave_72 : decode cX6_gave 72 = .ok (.iload 5, 2) := by decide +kernel
theorem dX6_gave_74 : decode cX6_gave 74 = .ok (.invokevirtual 161, 3) := by decide +kernel
theorem dX6_gave_77 : decode cX6_gave 77 = .ok (.iload_n 1, 1) := by decide +kernel
theorem dX6_gave_78 : decode cX6_gave 78 = .ok (.if_icmp .ne 7, 3) := by decide +kernel
theorem dX6_gave_81 : decode cX6_gave 81 = .ok (.iconst 1, 1) := by decide +kernel
theorem dX6_gave_82 : decode cX6_gave 82 = .ok (.goto 4, 3) := by decide +kernel
theorem dX6_gave_85 : decode cX6_gave 85 = .ok (.iconst 0, 1) := by decide +kernel
theorem dX6_gave_86 : decode cX6_gave 86 = .ok (.istore 6, 2) := by decide +kernel
theorem dX6_gave_88 : decode cX6_gave 88 = .ok (.iconst 0, 1) := by decide +kernel
theorem dX6_gave_89 : decode cX6_gave 89 = .ok (.istore 7, 2) := by decide +kernel
theorem dX6_gave_91 : decode cX6_gave 91 = .ok (.iload 7, 2) := by decide +kernel
theorem dX6_gave_93 : decode cX6_gave 93 = .ok (.aload_n 0, 1) := by decide +kernel
theorem dX6_gave_94 : decode cX6_gave 94 = .ok (.getfield 100, 3) := by decide +kernel
theorem dX6_gave_97 : decode cX6_gave 97 = .ok (.if_icmp .ge 57, 3) := by decide +kernel
theorem dX6_gave_100 : decode cX6_gave 100 = .ok (.iload 6, 2) := by decide +kernel
theorem dX6_gave_102 : decode cX6_gave 102 = .ok (.ifCond .eq 52, 3) := by decide +kernel
theorem dX6_gave_105 : decode cX6_gave 105 = .ok (.aload_n 0, 1) := by decide +kernel
theorem dX6_gave_106 : decode cX6_gave 106 = .ok (.getfield 41, 3) := by decide +kernel
theorem dX6_gave_109 : decode cX6_gave 109 = .ok (.iload 7, 2) := by decide +kernel
theorem dX6_gave_111 : decode cX6_gave 111 = .ok (.iaload, 1) := by decide +kernel
theorem dX6_gave_112 : decode cX6_gave 112 = .ok (.aload_n 0, 1) := by decide +kernel
theorem dX6_gave_113 : decode cX6_gave 113 = .ok (.getfield 51, 3) := by decide +kernel
theorem dX6_gave_116 : decode cX6_gave 116 = .ok (.if_icmp .ge 25, 3) := by decide +kernel
theorem dX6_gave_119 : decode cX6_gave 119 = .ok (.iload 5, 2) := by decide +kernel
theorem dX6_gave_121 : decode cX6_gave 121 = .ok (.aload_n 0, 1) := by decide +kernel
theorem dX6_gave_122 : decode cX6_gave 122 = .ok (.getfield 41, 3) := by decide +kernel
theorem dX6_gave_125 : decode cX6_gave 125 = .ok (.iload 7, 2) := by decide +kernel
theorem dX6_gave_127 : decode cX6_gave 127 = .ok (.iaload, 1) := by decide +kernel
theorem dX6_gave_128 : decode cX6_gave 128 = .ok (.invokestatic 116, 3) := by decide +kernel
theorem dX6_gave_131 : decode cX6_gave 131 = .ok (.aload_n 0, 1) := by decide +kernel
theorem dX6_gave_132 : decode cX6_gave 132 = .ok (.getfield 44, 3) := by decide +kernel
theorem dX6_gave_135 : decode cX6_gave 135 = .ok (.iload 7, 2) := by decide +kernel
theorem dX6_gave_137 : decode cX6_gave 137 = .ok (.baload, 1) := by decide +kernel
theorem dX6_gave_138 : decode cX6_gave 138 = .ok (.if_icmp .ne 7, 3) := by decide +kernel
theorem dX6_gave_141 : decode cX6_gave 141 = .ok (.iconst 1, 1) := by decide +kernel
theorem dX6_gave_142 : decode cX6_gave 142 = .ok (.goto 4, 3) := by decide +kernel
theorem dX6_gave_145 : decode cX6_gave 145 = .ok (.iconst 0, 1) := by decide +kernel
theorem dX6_gave_146 : decode cX6_gave 146 = .ok (.istore 6, 2) := by decide +kernel
theorem dX6_gave_148 : decode cX6_gave 148 = .ok (.iinc 7 1, 3) := by decide +kernel
theorem dX6_gave_151 : decode cX6_gave 151 = .ok (.goto (-60), 3) := by decide +kernel
theorem dX6_gave_154 : decode cX6_gave 154 = .ok (.iload 6, 2) := by decide +kernel
theorem dX6_gave_156 : decode cX6_gave 156 = .ok (.ifCond .eq 13, 3) := by decide +kernel
theorem dX6_gave_159 : decode cX6_gave 159 = .ok (.iinc 3 1, 3) := by decide +kernel
theorem dX6_gave_162 : decode cX6_gave 162 = .ok (.iload 4, 2) := by decide +kernel
theorem dX6_gave_164 : decode cX6_gave 164 = .ok (.iload 5, 2) := by decide +kernel
theorem dX6_gave_166 : decode cX6_gave 166 = .ok (.iand, 1) := by decide +kernel
theorem dX6_gave_167 : decode cX6_gave 167 = .ok (.istore 4, 2) := by decide +kernel
theorem dX6_gave_169 : decode cX6_gave 169 = .ok (.iinc 5 1, 3) := by decide +kernel
theorem dX6_gave_172 : decode cX6_gave 172 = .ok (.goto (-127), 3) := by decide +kernel
theorem dX6_gave_175 : decode cX6_gave 175 = .ok (.iload_n 2, 1) := by decide +kernel
theorem dX6_gave_176 : decode cX6_gave 176 = .ok (.ifCond .ne 7, 3) := by decide +kernel
theorem dX6_gave_179 : decode cX6_gave 179 = .ok (.iload_n 3, 1) := by decide +kernel
theorem dX6_gave_180 : decode cX6_gave 180 = .ok (.goto 14, 3) := by decide +kernel
theorem dX6_gave_183 : decode cX6_gave 183 = .ok (.iload_n 3, 1) := by decide +kernel
theorem dX6_gave_184 : decode cX6_gave 184 = .ok (.ifCond .ne 8, 3) := by decide +kernel
theorem dX6_gave_187 : decode cX6_gave 187 = .ok (.bipush (-9), 2) := by decide +kernel
theorem dX6_gave_189 : decode cX6_gave 189 = .ok (.goto 5, 3) := by decide +kernel
theorem dX6_gave_192 : decode cX6_gave 192 = .ok (.iload 4, 2) := by decide +kernel
theorem dX6_gave_194 : decode cX6_gave 194 = .ok (.ireturn, 1) := by decide +kernel
set_option maxRecDepth 20000 in
theorem ggX6_see_X6_noOne : GoodIn wsX6_see wsX6_noOne := goodIn_r _ [9, 10, 11, 12, 8, 13, 14, 15, 16, 17, 18, 19, 20, 21, 22, 23, 24, 25, 26, 27, 28, 29, 30, 31, 32, 33, 34, 35, 36] (by decide +kernel) (by decide +kernel)
set_option maxRecDepth 20000 in
theorem gX6_see_X6_noOne : GoodIn wsX6_see (wsV RX6 103 RX6 yX6_noOne wsX6_noOne) := goodIn_app (goodIn_of _ (by decide +kernel)) ggX6_see_X6_noOne
theorem dX6_see_0 : decode cX6_see 0 = .ok (.aload_n 0, 1) := by decide +kernel
theorem dX6_see_1 : decode cX6_see 1 = .ok (.iconst 0, 1) := by decide +kernel
theorem dX6_see_2 : decode cX6_see 2 = .ok (.putfield 47, 3) := by decide +kernel
theorem dX6_see_5 : decode cX6_see 5 = .ok (.aload_n 0, 1) := by decide +kernel
theorem dX6_see_6 : decode cX6_see 6 = .ok (.iload_n 1, 1) := by decide +kernel
theorem dX6_see_7 : decode cX6_see 7 = .ok (.invokevirtual 103, 3) := by decide +kernel
theorem dX6_see_10 : decode cX6_see 10 = .ok (.ifCond .eq 5, 3) := by decide +kernel
theorem dX6_see_13 : decode cX6_see 13 = .ok (.iconst (-1), 1) := by decide +kernel
theorem dX6_see_14 : decode cX6_see 14 = .ok (.ireturn, 1) := by decide +kernel
theorem dX6_see_15 : decode cX6_see 15 = .ok (.aload_n 0, 1) := by decide +kernel
theorem dX6_see_16 : decode cX6_see 16 = .ok (.getfield 100, 3) := by decide +kernel
theorem dX6_see_19 : decode cX6_see 19 = .ok (.bipush 6, 2) := by decide +kernel
theorem dX6_see_21 : decode cX6_see 21 = .ok (.if_icmp .ne 6, 3) := by decide +kernel
theorem dX6_see_24 : decode cX6_see 24 = .ok (.bipush (-4), 2) := by decide +kernel
theorem dX6_see_26 : decode cX6_see 26 = .ok (.ireturn, 1) := by decide +kernel
theorem dX6_see_27 : decode cX6_see 27 = .ok (.aload_n 0, 1) := by decide +kernel
theorem dX6_see_28 : decode cX6_see 28 = .ok (.getfield 41, 3) := by decide +kernel
theorem dX6_see_31 : decode cX6_see 31 = .ok (.aload_n 0, 1) := by decide +kernel
theorem dX6_see_32 : decode cX6_see 32 = .ok (.getfield 100, 3) := by decide +kernel
theorem dX6_see_35 : decode cX6_see 35 = .ok (.iload_n 1, 1) := by decide +kernel
theorem dX6_see_36 : decode cX6_see 36 = .ok (.iastore, 1) := by decide +kernel
theorem dX6_see_37 : decode cX6_see 37 = .ok (.aload_n 0, 1) := by decide +kernel
theorem dX6_see_38 : decode cX6_see 38 = .ok (.getfield 44, 3) := by decide +kernel
theorem dX6_see_41 : decode cX6_see 41 = .ok (.aload_n 0, 1) := by decide +kernel
theorem dX6_see_42 : decode cX6_see 42 = .ok (.getfield 100, 3) := by decide +kernel
theorem dX6_see_45 : decode cX6_see 45 = .ok (.iload_n 2, 1) := by decide +kernel
theorem dX6_see_46 : decode cX6_see 46 = .ok (.bastore, 1) := by decide +kernel
theorem dX6_see_47 : decode cX6_see 47 = .ok (.aload_n 0, 1) := by decide +kernel
theorem dX6_see_48 : decode cX6_see 48 = .ok (.dup, 1) := by decide +kernel
theorem dX6_see_49 : decode cX6_see 49 = .ok (.getfield 100, 3) := by decide +kernel
theorem dX6_see_52 : decode cX6_see 52 = .ok (.iconst 1, 1) := by decide +kernel
theorem dX6_see_53 : decode cX6_see 53 = .ok (.iadd, 1) := by decide +kernel
theorem dX6_see_54 : decode cX6_see 54 = .ok (.putfield 100, 3) := by decide +kernel
theorem dX6_see_57 : decode cX6_see 57 = .ok (.aload_n 0, 1) := by decide +kernel
theorem dX6_see_58 : decode cX6_see 58 = .ok (.getfield 100, 3) := by decide +kernel
theorem dX6_see_61 : decode cX6_see 61 = .ok (.ireturn, 1) := by decide +kernel
theorem dX6_unsee_0 : decode cX6_unsee 0 = .ok (.aload_n 0, 1) := by decide +kernel
theorem dX6_unsee_1 : decode cX6_unsee 1 = .ok (.iconst 0, 1) := by decide +kernel
theorem dX6_unsee_2 : decode cX6_unsee 2 = .ok (.putfield 47, 3) := by decide +kernel
theorem dX6_unsee_5 : decode cX6_unsee 5 = .ok (.aload_n 0, 1) := by decide +kernel
theorem dX6_unsee_6 : decode cX6_unsee 6 = .ok (.getfield 100, 3) := by decide +kernel
theorem dX6_unsee_9 : decode cX6_unsee 9 = .ok (.istore_n 1, 1) := by decide +kernel
theorem dX6_unsee_10 : decode cX6_unsee 10 = .ok (.aload_n 0, 1) := by decide +kernel
theorem dX6_unsee_11 : decode cX6_unsee 11 = .ok (.iconst 0, 1) := by decide +kernel
theorem dX6_unsee_12 : decode cX6_unsee 12 = .ok (.putfield 100, 3) := by decide +kernel
theorem dX6_unsee_15 : decode cX6_unsee 15 = .ok (.iload_n 1, 1) := by decide +kernel
theorem dX6_unsee_16 : decode cX6_unsee 16 = .ok (.ireturn, 1) := by decide +kernel
theorem dX6_divisor_0 : decode cX6_divisor 0 = .ok (.iload_n 0, 1) := by decide +kernel
theorem dX6_divisor_1 : decode cX6_divisor 1 = .ok (.istore_n 2, 1) := by decide +kernel
theorem dX6_divisor_2 : decode cX6_divisor 2 = .ok (.iload_n 1, 1) := by decide +kernel
theorem dX6_divisor_3 : decode cX6_divisor 3 = .ok (.istore_n 3, 1) := by decide +kernel
theorem dX6_divisor_4 : decode cX6_divisor 4 = .ok (.iload_n 3, 1) := by decide +kernel
theorem dX6_divisor_5 : decode cX6_divisor 5 = .ok (.ifCond .eq 16, 3) := by decide +kernel
theorem dX6_divisor_8 : decode cX6_divisor 8 = .ok (.iload_n 2, 1) := by decide +kernel
theorem dX6_divisor_9 : decode cX6_divisor 9 = .ok (.iload_n 3, 1) := by decide +kernel
theorem dX6_divisor_10 : decode cX6_divisor 10 = .ok (.irem, 1) := by decide +kernel
theorem dX6_divisor_11 : decode cX6_divisor 11 = .ok (.istore 4, 2) := by decide +kernel
theorem dX6_divisor_13 : decode cX6_divisor 13 = .ok (.iload_n 3, 1) := by decide +kernel
theorem dX6_divisor_14 : decode cX6_divisor 14 = .ok (.istore_n 2, 1) := by decide +kernel
theorem dX6_divisor_15 : decode cX6_divisor 15 = .ok (.iload 4, 2) := by decide +kernel
theorem dX6_divisor_17 : decode cX6_divisor 17 = .ok (.istore_n 3, 1) := by decide +kernel
theorem dX6_divisor_18 : decode cX6_divisor 18 = .ok (.goto (-14), 3) := by decide +kernel
theorem dX6_divisor_21 : decode cX6_divisor 21 = .ok (.iload_n 2, 1) := by decide +kernel
theorem dX6_divisor_22 : decode cX6_divisor 22 = .ok (.ireturn, 1) := by decide +kernel
set_option maxRecDepth 20000 in
theorem ggX6_luck_X6_in : GoodIn wsX6_luck wsX6_in := goodIn_r _ [9] (by decide +kernel) (by decide +kernel)
set_option maxRecDepth 20000 in
theorem gX6_luck_X6_in : GoodIn wsX6_luck (va_wsS RX6 54 yX6_in wsX6_in) := goodIn_app (goodIn_of _ (by decide +kernel)) ggX6_luck_X6_in
set_option maxRecDepth 20000 in
theorem ggX6_luck_X6_giftsOf : GoodIn wsX6_luck wsX6_giftsOf := goodIn_r _ [13, 5, 4, 14, 15, 8, 16, 17, 18, 19, 29, 30, 31, 32, 33, 34, 35, 36, 37, 38, 39, 40, 41, 42, 43, 44, 45, 46, 47, 48, 49, 50, 51] (by decide +kernel) (by decide +kernel)
set_option maxRecDepth 20000 in
theorem gX6_luck_X6_giftsOf : GoodIn wsX6_luck (wsV RX6 161 RX6 yX6_giftsOf wsX6_giftsOf) := goodIn_app (goodIn_of _ (by decide +kernel)) ggX6_luck_X6_giftsOf
set_option maxRecDepth 20000 in
theorem ggX6_luck_X6_many : GoodIn wsX6_luck wsX6_many := goodIn_r _ [22] (by decide +kernel) (by decide +kernel)
set_option maxRecDepth 20000 in
theorem gX6_luck_X6_many : GoodIn wsX6_luck (va_wsS RX6 120 yX6_many wsX6_many) := goodIn_app (goodIn_of _ (by decide +kernel)) ggX6_luck_X6_many
set_option maxRecDepth 20000 in
theorem ggX6_luck_X6_power : GoodIn wsX6_luck wsX6_power := goodIn_r _ [25] (by decide +kernel) (by decide +kernel)
set_option maxRecDepth 20000 in
theorem gX6_luck_X6_power : GoodIn wsX6_luck (va_wsS RX6 142 yX6_power wsX6_power) := goodIn_app (goodIn_of _ (by decide +kernel)) ggX6_luck_X6_power
set_option maxRecDepth 20000 in
theorem ggX6_luck_X6_divisor : GoodIn wsX6_luck wsX6_divisor := goodIn_r _ [28] (by decide +kernel) (by decide +kernel)
set_option maxRecDepth 20000 in
theorem gX6_luck_X6_divisor : GoodIn wsX6_luck (va_wsS RX6 166 yX6_divisor wsX6_divisor) := goodIn_app (goodIn_of _ (by decide +kernel)) ggX6_luck_X6_divisor
theorem dX6_luck_0 : decode cX6_luck 0 = .ok (.aload_n 0, 1) := by decide +kernel
theorem dX6_luck_1 : decode cX6_luck 1 = .ok (.iconst 0, 1) := by decide +kernel
theorem dX6_luck_2 : decode cX6_luck 2 = .ok (.putfield 47, 3) := by decide +kernel
theorem dX6_luck_5 : decode cX6_luck 5 = .ok (.iload_n 1, 1) := by decide +kernel
theorem dX6_luck_6 : decode cX6_luck 6 = .ok (.i2l, 1) := by decide +kernel
theorem dX6_luck_7 : decode cX6_luck 7 = .ok (.lconst 0, 1) := by decide +kernel
theorem dX6_luck_8 : decode cX6_luck 8 = .ok (.ldc2_w 164, 3) := by decide +kernel
theorem dX6_luck_11 : decode cX6_luck 11 = .ok (.invokestatic 54, 3) := by decide +kernel
theorem dX6_luck_14 : decode cX6_luck 14 = .ok (.ifCond .eq 15, 3) := by decide +kernel
theorem dX6_luck_17 : decode cX6_luck 17 = .ok (.iload_n 2, 1) := by decide +kernel
theorem dX6_luck_18 : decode cX6_luck 18 = .ok (.i2l, 1) := by decide +kernel
theorem dX6_luck_19 : decode cX6_luck 19 = .ok (.lconst 0, 1) := by decide +kernel
theorem dX6_luck_20 : decode cX6_luck 20 = .ok (.ldc2_w 159, 3) := by decide +kernel
theorem dX6_luck_23 : decode cX6_luck 23 = .ok (.invokestatic 54, 3) := by decide +kernel
theorem dX6_luck_26 : decode cX6_luck 26 = .ok (.ifCond .ne 6, 3) := by decide +kernel
theorem dX6_luck_29 : decode cX6_luck 29 = .ok (.bipush (-2), 2) := by decide +kernel
theorem dX6_luck_31 : decode cX6_luck 31 = .ok (.ireturn, 1) := by decide +kernel
theorem dX6_luck_32 : decode cX6_luck 32 = .ok (.aload_n 0, 1) := by decide +kernel
theorem dX6_luck_33 : decode cX6_luck 33 = .ok (.getfield 25, 3) := by decide +kernel
theorem dX6_luck_36 : decode cX6_luck 36 = .ok (.bipush 12, 2) := by decide +kernel
theorem dX6_luck_38 : decode cX6_luck 38 = .ok (.iaload, 1) := by decide +kernel
theorem dX6_luck_39 : decode cX6_luck 39 = .ok (.istore 4, 2) := by decide +kernel
theorem dX6_luck_41 : decode cX6_luck 41 = .ok (.iconst 0, 1) := by decide +kernel
theorem dX6_luck_42 : decode cX6_luck 42 = .ok (.istore 5, 2) := by decide +kernel
theorem dX6_luck_44 : decode cX6_luck 44 = .ok (.iconst 0, 1) := by decide +kernel
theorem dX6_luck_45 : decode cX6_luck 45 = .ok (.istore 6, 2) := by decide +kernel
theorem dX6_luck_47 : decode cX6_luck 47 = .ok (.iload 6, 2) := by decide +kernel
theorem dX6_luck_49 : decode cX6_luck 49 = .ok (.iconst 1, 1) := by decide +kernel
theorem dX6_luck_50 : decode cX6_luck 50 = .ok (.aload_n 0, 1) := by decide +kernel
theorem dX6_luck_51 : decode cX6_luck 51 = .ok (.getfield 51, 3) := by decide +kernel
theorem dX6_luck_54 : decode cX6_luck 54 = .ok (.ishl, 1) := by decide +kernel
theorem dX6_luck_55 : decode cX6_luck 55 = .ok (.if_icmp .ge 61, 3) := by decide +kernel
theorem dX6_luck_58 : decode cX6_luck 58 = .ok (.iload 6, 2) := by decide +kernel
theorem dX6_luck_60 : decode cX6_luck 60 = .ok (.iload 4, 2) := by decide +kernel
theorem dX6_luck_62 : decode cX6_luck 62 = .ok (.iconst (-1), 1) := by decide +kernel
theorem dX6_luck_63 : decode cX6_luck 63 = .ok (.ixor, 1) := by decide +kernel
theorem dX6_luck_64 : decode cX6_luck 64 = .ok (.iand, 1) := by decide +kernel
theorem dX6_luck_65 : decode cX6_luck 65 = .ok (.ifCond .ne 45, 3) := by decide +kernel
theorem dX6_luck_68 : decode cX6_luck 68 = .ok (.aload_n 0, 1) := by decide +kernel
theorem dX6_luck_69 : decode cX6_luck 69 = .ok (.iload 6, 2) := by decide +kernel
theorem dX6_luck_71 : decode cX6_luck 71 = .ok (.invokevirtual 161, 3) := by decide +kernel
theorem dX6_luck_74 : decode cX6_luck 74 = .ok (.iload_n 2, 1) := by decide +kernel
theorem dX6_luck_75 : decode cX6_luck 75 = .ok (.if_icmp .lt 35, 3) := by decide +kernel
theorem dX6_luck_78 : decode cX6_luck 78 = .ok (.iload 5, 2) := by decide +kernel
theorem dX6_luck_80 : decode cX6_luck 80 = .ok (.iload_n 1, 1) := by decide +kernel
theorem dX6_luck_81 : decode cX6_luck 81 = .ok (.iload 6, 2) := by decide +kernel
theorem dX6_luck_83 : decode cX6_luck 83 = .ok (.invokestatic 120, 3) := by decide +kernel
theorem dX6_luck_86 : decode cX6_luck 86 = .ok (.invokestatic 142, 3) := by decide +kernel
theorem dX6_luck_89 : decode cX6_luck 89 = .ok (.bipush 10, 2) := by decide +kernel
theorem dX6_luck_91 : decode cX6_luck 91 = .ok (.iload_n 1, 1) := by decide +kernel
theorem dX6_luck_92 : decode cX6_luck 92 = .ok (.isub, 1) := by decide +kernel
theorem dX6_luck_93 : decode cX6_luck 93 = .ok (.iload 4, 2) := by decide +kernel
theorem dX6_luck_95 : decode cX6_luck 95 = .ok (.iload 6, 2) := by decide +kernel
theorem dX6_luck_97 : decode cX6_luck 97 = .ok (.iconst (-1), 1) := by decide +kernel
theorem dX6_luck_98 : decode cX6_luck 98 = .ok (.ixor, 1) := by decide +kernel
theorem dX6_luck_99 : decode cX6_luck 99 = .ok (.iand, 1) := by decide +kernel
theorem dX6_luck_100 : decode cX6_luck 100 = .ok (.invokestatic 120, 3) := by decide +kernel
theorem dX6_luck_103 : decode cX6_luck 103 = .ok (.invokestatic 142, 3) := by decide +kernel
theorem dX6_luck_106 : decode cX6_luck 106 = .ok (.imul, 1) := by decide +kernel
theorem dX6_luck_107 : decode cX6_luck 107 = .ok (.iadd, 1) := by decide +kernel
theorem dX6_luck_108 : decode cX6_luck 108 = .ok (.istore 5, 2) := by decide +kernel
theorem dX6_luck_110 : decode cX6_luck 110 = .ok (.iinc 6 1, 3) := by decide +kernel
theorem dX6_luck_113 : decode cX6_luck 113 = .ok (.goto (-66), 3) := by decide +kernel
theorem dX6_luck_116 : decode cX6_luck 116 = .ok (.bipush 10, 2) := by decide +kernel
theorem dX6_luck_118 : decode cX6_luck 118 = .ok (.iload 4, 2) := by decide +kernel
theorem dX6_luck_120 : decode cX6_luck 120 = .ok (.invokestatic 120, 3) := by decide +kernel
theorem dX6_luck_123 : decode cX6_luck 123 = .ok (.invokestatic 142, 3) := by decide +kernel
theorem dX6_luck_126 : decode cX6_luck 126 = .ok (.istore 6, 2) := by decide +kernel
theorem dX6_luck_128 : decode cX6_luck 128 = .ok (.iload 5, 2) := by decide +kernel
theorem dX6_luck_130 : decode cX6_luck 130 = .ok (.iload 6, 2) := by decide +kernel
theorem dX6_luck_132 : decode cX6_luck 132 = .ok (.invokestatic 166, 3) := by decide +kernel
theorem dX6_luck_135 : decode cX6_luck 135 = .ok (.istore 7, 2) := by decide +kernel
theorem dX6_luck_137 : decode cX6_luck 137 = .ok (.iload_n 3, 1) := by decide +kernel
theorem dX6_luck_138 : decode cX6_luck 138 = .ok (.ifCond .eq 11, 3) := by decide +kernel
theorem dX6_luck_141 : decode cX6_luck 141 = .ok (.iload 5, 2) := by decide +kernel
theorem dX6_luck_143 : decode cX6_luck 143 = .ok (.iload 7, 2) := by decide +kernel
theorem dX6_luck_145 : decode cX6_luck 145 = .ok (.idiv, 1) := by decide +kernel
theorem dX6_luck_146 : decode cX6_luck 146 = .ok (.goto 8, 3) := by decide +kernel
theorem dX6_luck_149 : decode cX6_luck 149 = .ok (.iload 6, 2) := by decide +kernel
theorem dX6_luck_151 : decode cX6_luck 151 = .ok (.iload 7, 2) := by decide +kernel
theorem dX6_luck_153 : decode cX6_luck 153 = .ok (.idiv, 1) := by decide +kernel
theorem dX6_luck_154 : decode cX6_luck 154 = .ok (.ireturn, 1) := by decide +kernel
theorem dX6_seed_0 : decode cX6_seed 0 = .ok (.aload_n 0, 1) := by decide +kernel
theorem dX6_seed_1 : decode cX6_seed 1 = .ok (.iconst 0, 1) := by decide +kernel
theorem dX6_seed_2 : decode cX6_seed 2 = .ok (.putfield 47, 3) := by decide +kernel
theorem dX6_seed_5 : decode cX6_seed 5 = .ok (.aload_n 0, 1) := by decide +kernel
theorem dX6_seed_6 : decode cX6_seed 6 = .ok (.getfield 169, 3) := by decide +kernel
theorem dX6_seed_9 : decode cX6_seed 9 = .ok (.lstore_n 3, 1) := by decide +kernel
theorem dX6_seed_10 : decode cX6_seed 10 = .ok (.aload_n 0, 1) := by decide +kernel
theorem dX6_seed_11 : decode cX6_seed 11 = .ok (.lload_n 1, 1) := by decide +kernel
theorem dX6_seed_12 : decode cX6_seed 12 = .ok (.putfield 169, 3) := by decide +kernel
theorem dX6_seed_15 : decode cX6_seed 15 = .ok (.lload_n 3, 1) := by decide +kernel
theorem dX6_seed_16 : decode cX6_seed 16 = .ok (.lreturn, 1) := by decide +kernel
set_option maxRecDepth 20000 in
theorem ggX6_day_X6_in : GoodIn wsX6_day wsX6_in := goodIn_r _ [11] (by decide +kernel) (by decide +kernel)
set_option maxRecDepth 20000 in
theorem gX6_day_X6_in : GoodIn wsX6_day (va_wsS RX6 54 yX6_in wsX6_in) := goodIn_app (goodIn_of _ (by decide +kernel)) ggX6_day_X6_in
set_option maxRecDepth 20000 in
theorem ggX6_day_X6_begin : GoodIn wsX6_day wsX6_begin := goodIn_r _ [15, 6, 16, 47, 48, 49, 50, 51, 52, 53, 54, 55, 56, 57, 58, 59, 60, 61, 62, 63, 64, 65, 66, 67, 68, 69] (by decide +kernel) (by decide +kernel)
set_option maxRecDepth 20000 in
theorem gX6_day_X6_begin : GoodIn wsX6_day (wsV RX6 137 RX6 yX6_begin wsX6_begin) := goodIn_app (goodIn_of _ (by decide +kernel)) ggX6_day_X6_begin
set_option maxRecDepth 20000 in
theorem ggX6_day_X6_goAct : GoodIn wsX6_day wsX6_goAct := goodIn_r _ [20, 21, 22, 23, 10, 24, 25, 8, 9, 11, 26, 27, 28, 29, 30, 31, 32, 33, 34, 35, 36, 37, 38, 39, 40, 41, 42, 43, 44, 45, 46, 47, 48, 49, 50, 51, 52, 53, 54, 55, 56, 57, 58, 59, 60, 61, 62, 63, 64, 65, 66, 67, 68, 69] (by decide +kernel) (by decide +kernel)
set_option maxRecDepth 20000 in
theorem gX6_day_X6_goAct : GoodIn wsX6_day (wsV RX6 149 RX6 yX6_goAct wsX6_goAct) := goodIn_app (goodIn_of _ (by decide +kernel)) ggX6_day_X6_goAct
theorem dX6_day_0 : decode cX6_day 0 = .ok (.aload_n 0, 1) := by decide +kernel
theorem dX6_day_1 : decode cX6_day 1 = .ok (.iconst 0, 1) := by decide +kernel
theorem dX6_day_2 : decode cX6_day 2 = .ok (.putfield 47, 3) := by decide +kernel
theorem dX6_day_5 : decode cX6_day 5 = .ok (.iload_n 1, 1) := by decide +kernel
theorem dX6_day_6 : decode cX6_day 6 = .ok (.i2l, 1) := by decide +kernel
theorem dX6_day_7 : decode cX6_day 7 = .ok (.lconst 1, 1) := by decide +kernel
theorem dX6_day_8 : decode cX6_day 8 = .ok (.ldc2_w 153, 3) := by decide +kernel
theorem dX6_day_11 : decode cX6_day 11 = .ok (.invokestatic 54, 3) := by decide +kernel
theorem dX6_day_14 : decode cX6_day 14 = .ok (.ifCond .ne 6, 3) := by decide +kernel
theorem dX6_day_17 : decode cX6_day 17 = .ok (.bipush (-2), 2) := by decide +kernel
theorem dX6_day_19 : decode cX6_day 19 = .ok (.ireturn, 1) := by decide +kernel
theorem dX6_day_20 : decode cX6_day 20 = .ok (.aload_n 0, 1) := by decide +kernel
theorem dX6_day_21 : decode cX6_day 21 = .ok (.invokevirtual 137, 3) := by decide +kernel
theorem dX6_day_24 : decode cX6_day 24 = .ok (.iconst 0, 1) := by decide +kernel
theorem dX6_day_25 : decode cX6_day 25 = .ok (.istore_n 2, 1) := by decide +kernel
theorem dX6_day_26 : decode cX6_day 26 = .ok (.iload_n 2, 1) := by decide +kernel
theorem dX6_day_27 : decode cX6_day 27 = .ok (.iload_n 1, 1) := by decide +kernel
theorem dX6_day_28 : decode cX6_day 28 = .ok (.if_icmp .ge 46, 3) := by decide +kernel
theorem dX6_day_31 : decode cX6_day 31 = .ok (.aload_n 0, 1) := by decide +kernel
theorem dX6_day_32 : decode cX6_day 32 = .ok (.aload_n 0, 1) := by decide +kernel
theorem dX6_day_33 : decode cX6_day 33 = .ok (.getfield 169, 3) := by decide +kernel
theorem dX6_day_36 : decode cX6_day 36 = .ok (.ldc2_w 173, 3) := by decide +kernel
theorem dX6_day_39 : decode cX6_day 39 = .ok (.lmul, 1) := by decide +kernel
theorem dX6_day_40 : decode cX6_day 40 = .ok (.ldc2_w 175, 3) := by decide +kernel
theorem dX6_day_43 : decode cX6_day 43 = .ok (.ladd, 1) := by decide +kernel
theorem dX6_day_44 : decode cX6_day 44 = .ok (.putfield 169, 3) := by decide +kernel
theorem dX6_day_47 : decode cX6_day 47 = .ok (.aload_n 0, 1) := by decide +kernel
theorem dX6_day_48 : decode cX6_day 48 = .ok (.aload_n 0, 1) := by decide +kernel
theorem dX6_day_49 : decode cX6_day 49 = .ok (.getfield 28, 3) := by decide +kernel
theorem dX6_day_52 : decode cX6_day 52 = .ok (.aload_n 0, 1) := by decide +kernel
theorem dX6_day_53 : decode cX6_day 53 = .ok (.getfield 169, 3) := by decide +kernel
theorem dX6_day_56 : decode cX6_day 56 = .ok (.bipush 33, 2) := by decide +kernel
theorem dX6_day_58 : decode cX6_day 58 = .ok (.lushr, 1) := by decide +kernel
theorem dX6_day_59 : decode cX6_day 59 = .ok (.ldc2_w 145, 3) := by decide +kernel
theorem dX6_day_62 : decode cX6_day 62 = .ok (.lrem, 1) := by decide +kernel
theorem dX6_day_63 : decode cX6_day 63 = .ok (.l2i, 1) := by decide +kernel
theorem dX6_day_64 : decode cX6_day 64 = .ok (.invokevirtual 149, 3) := by decide +kernel
theorem dX6_day_67 : decode cX6_day 67 = .ok (.pop, 1) := by decide +kernel
theorem dX6_day_68 : decode cX6_day 68 = .ok (.iinc 2 1, 3) := by decide +kernel
theorem dX6_day_71 : decode cX6_day 71 = .ok (.goto (-45), 3) := by decide +kernel
theorem dX6_day_74 : decode cX6_day 74 = .ok (.aload_n 0, 1) := by decide +kernel
theorem dX6_day_75 : decode cX6_day 75 = .ok (.getfield 28, 3) := by decide +kernel
theorem dX6_day_78 : decode cX6_day 78 = .ok (.bipush 15, 2) := by decide +kernel
theorem dX6_day_80 : decode cX6_day 80 = .ok (.iaload, 1) := by decide +kernel
theorem dX6_day_81 : decode cX6_day 81 = .ok (.ireturn, 1) := by decide +kernel
set_option maxRecDepth 20000 in
theorem ggX6_keep_X6_in : GoodIn wsX6_keep wsX6_in := goodIn_r _ [8] (by decide +kernel) (by decide +kernel)
set_option maxRecDepth 20000 in
theorem gX6_keep_X6_in : GoodIn wsX6_keep (va_wsS RX6 54 yX6_in wsX6_in) := goodIn_app (goodIn_of _ (by decide +kernel)) ggX6_keep_X6_in
set_option maxRecDepth 20000 in
theorem ggX6_keep_X6_many : GoodIn wsX6_keep wsX6_many := goodIn_r _ [11] (by decide +kernel) (by decide +kernel)
set_option maxRecDepth 20000 in
theorem gX6_keep_X6_many : GoodIn wsX6_keep (va_wsS RX6 120 yX6_many wsX6_many) := goodIn_app (goodIn_of _ (by decide +kernel)) ggX6_keep_X6_many
theorem dX6_keep_0 : decode cX6_keep 0 = .ok (.aload_n 0, 1) := by decide +kernel
theorem dX6_keep_1 : decode cX6_keep 1 = .ok (.iconst 0, 1) := by decide +kernel
theorem dX6_keep_2 : decode cX6_keep 2 = .ok (.putfield 47, 3) := by decide +kernel
theorem dX6_keep_5 : decode cX6_keep 5 = .ok (.iload_n 1, 1) := by decide +kernel
theorem dX6_keep_6 : decode cX6_keep 6 = .ok (.i2l, 1) := by decide +kernel
theorem dX6_keep_7 : decode cX6_keep 7 = .ok (.lconst 0, 1) := by decide +kernel
theorem dX6_keep_8 : decode cX6_keep 8 = .ok (.lconst 1, 1) := by decide +kernel
theorem dX6_keep_9 : decode cX6_keep 9 = .ok (.invokestatic 54, 3) := by decide +kernel
theorem dX6_keep_12 : decode cX6_keep 12 = .ok (.ifCond .ne 5, 3) := by decide +kernel
theorem dX6_keep_15 : decode cX6_keep 15 = .ok (.iconst (-1), 1) := by decide +kernel
theorem dX6_keep_16 : decode cX6_keep 16 = .ok (.ireturn, 1) := by decide +kernel
theorem dX6_keep_17 : decode cX6_keep 17 = .ok (.aload_n 0, 1) := by decide +kernel
theorem dX6_keep_18 : decode cX6_keep 18 = .ok (.getfield 37, 3) := by decide +kernel
theorem dX6_keep_21 : decode cX6_keep 21 = .ok (.iload_n 1, 1) := by decide +kernel
theorem dX6_keep_22 : decode cX6_keep 22 = .ok (.iconst 1, 1) := by decide +kernel
theorem dX6_keep_23 : decode cX6_keep 23 = .ok (.bastore, 1) := by decide +kernel
theorem dX6_keep_24 : decode cX6_keep 24 = .ok (.iconst 0, 1) := by decide +kernel
theorem dX6_keep_25 : decode cX6_keep 25 = .ok (.istore_n 2, 1) := by decide +kernel
theorem dX6_keep_26 : decode cX6_keep 26 = .ok (.iload_n 2, 1) := by decide +kernel
theorem dX6_keep_27 : decode cX6_keep 27 = .ok (.bipush 21, 2) := by decide +kernel
theorem dX6_keep_29 : decode cX6_keep 29 = .ok (.if_icmp .ge 26, 3) := by decide +kernel
theorem dX6_keep_32 : decode cX6_keep 32 = .ok (.aload_n 0, 1) := by decide +kernel
theorem dX6_keep_33 : decode cX6_keep 33 = .ok (.getfield 34, 3) := by decide +kernel
theorem dX6_keep_36 : decode cX6_keep 36 = .ok (.bipush 21, 2) := by decide +kernel
theorem dX6_keep_38 : decode cX6_keep 38 = .ok (.iload_n 1, 1) := by decide +kernel
theorem dX6_keep_39 : decode cX6_keep 39 = .ok (.imul, 1) := by decide +kernel
theorem dX6_keep_40 : decode cX6_keep 40 = .ok (.iload_n 2, 1) := by decide +kernel
theorem dX6_keep_41 : decode cX6_keep 41 = .ok (.iadd, 1) := by decide +kernel
theorem dX6_keep_42 : decode cX6_keep 42 = .ok (.aload_n 0, 1) := by decide +kernel
theorem dX6_keep_43 : decode cX6_keep 43 = .ok (.getfield 25, 3) := by decide +kernel
theorem dX6_keep_46 : decode cX6_keep 46 = .ok (.iload_n 2, 1) := by decide +kernel
theorem dX6_keep_47 : decode cX6_keep 47 = .ok (.iaload, 1) := by decide +kernel
theorem dX6_keep_48 : decode cX6_keep 48 = .ok (.iastore, 1) := by decide +kernel
theorem dX6_keep_49 : decode cX6_keep 49 = .ok (.iinc 2 1, 3) := by decide +kernel
theorem dX6_keep_52 : decode cX6_keep 52 = .ok (.goto (-26), 3) := by decide +kernel
theorem dX6_keep_55 : decode cX6_keep 55 = .ok (.aload_n 0, 1) := by decide +kernel
theorem dX6_keep_56 : decode cX6_keep 56 = .ok (.getfield 25, 3) := by decide +kernel
theorem dX6_keep_59 : decode cX6_keep 59 = .ok (.bipush 12, 2) := by decide +kernel
theorem dX6_keep_61 : decode cX6_keep 61 = .ok (.iaload, 1) := by decide +kernel
theorem dX6_keep_62 : decode cX6_keep 62 = .ok (.invokestatic 120, 3) := by decide +kernel
theorem dX6_keep_65 : decode cX6_keep 65 = .ok (.ireturn, 1) := by decide +kernel
set_option maxRecDepth 20000 in
theorem ggX6_again_X6_in : GoodIn wsX6_again wsX6_in := goodIn_r _ [9] (by decide +kernel) (by decide +kernel)
set_option maxRecDepth 20000 in
theorem gX6_again_X6_in : GoodIn wsX6_again (va_wsS RX6 54 yX6_in wsX6_in) := goodIn_app (goodIn_of _ (by decide +kernel)) ggX6_again_X6_in
set_option maxRecDepth 20000 in
theorem ggX6_again_X6_many : GoodIn wsX6_again wsX6_many := goodIn_r _ [12] (by decide +kernel) (by decide +kernel)
set_option maxRecDepth 20000 in
theorem gX6_again_X6_many : GoodIn wsX6_again (va_wsS RX6 120 yX6_many wsX6_many) := goodIn_app (goodIn_of _ (by decide +kernel)) ggX6_again_X6_many
theorem dX6_again_0 : decode cX6_again 0 = .ok (.aload_n 0, 1) := by decide +kernel
theorem dX6_again_1 : decode cX6_again 1 = .ok (.iconst 0, 1) := by decide +kernel
theorem dX6_again_2 : decode cX6_again 2 = .ok (.putfield 47, 3) := by decide +kernel
theorem dX6_again_5 : decode cX6_again 5 = .ok (.iload_n 1, 1) := by decide +kernel
theorem dX6_again_6 : decode cX6_again 6 = .ok (.i2l, 1) := by decide +kernel
theorem dX6_again_7 : decode cX6_again 7 = .ok (.lconst 0, 1) := by decide +kernel
theorem dX6_again_8 : decode cX6_again 8 = .ok (.lconst 1, 1) := by decide +kernel
theorem dX6_again_9 : decode cX6_again 9 = .ok (.invokestatic 54, 3) := by decide +kernel
theorem dX6_again_12 : decode cX6_again 12 = .ok (.ifCond .ne 5, 3) := by decide +kernel
theorem dX6_again_15 : decode cX6_again 15 = .ok (.iconst (-1), 1) := by decide +kernel
theorem dX6_again_16 : decode cX6_again 16 = .ok (.ireturn, 1) := by decide +kernel
theorem dX6_again_17 : decode cX6_again 17 = .ok (.aload_n 0, 1) := by decide +kernel
theorem dX6_again_18 : decode cX6_again 18 = .ok (.getfield 37, 3) := by decide +kernel
theorem dX6_again_21 : decode cX6_again 21 = .ok (.iload_n 1, 1) := by decide +kernel
theorem dX6_again_22 : decode cX6_again 22 = .ok (.baload, 1) := by decide +kernel
theorem dX6_again_23 : decode cX6_again 23 = .ok (.ifCond .ne 6, 3) := by decide +kernel
theorem dX6_again_26 : decode cX6_again 26 = .ok (.bipush (-3), 2) := by decide +kernel
theorem dX6_again_28 : decode cX6_again 28 = .ok (.ireturn, 1) := by decide +kernel
theorem dX6_again_29 : decode cX6_again 29 = .ok (.iconst 0, 1) := by decide +kernel
theorem dX6_again_30 : decode cX6_again 30 = .ok (.istore_n 2, 1) := by decide +kernel
theorem dX6_again_31 : decode cX6_again 31 = .ok (.iload_n 2, 1) := by decide +kernel
theorem dX6_again_32 : decode cX6_again 32 = .ok (.bipush 21, 2) := by decide +kernel
theorem dX6_again_34 : decode cX6_again 34 = .ok (.if_icmp .ge 26, 3) := by decide +kernel
theorem dX6_again_37 : decode cX6_again 37 = .ok (.aload_n 0, 1) := by decide +kernel
theorem dX6_again_38 : decode cX6_again 38 = .ok (.getfield 25, 3) := by decide +kernel
theorem dX6_again_41 : decode cX6_again 41 = .ok (.iload_n 2, 1) := by decide +kernel
theorem dX6_again_42 : decode cX6_again 42 = .ok (.aload_n 0, 1) := by decide +kernel
theorem dX6_again_43 : decode cX6_again 43 = .ok (.getfield 34, 3) := by decide +kernel
theorem dX6_again_46 : decode cX6_again 46 = .ok (.bipush 21, 2) := by decide +kernel
theorem dX6_again_48 : decode cX6_again 48 = .ok (.iload_n 1, 1) := by decide +kernel
theorem dX6_again_49 : decode cX6_again 49 = .ok (.imul, 1) := by decide +kernel
theorem dX6_again_50 : decode cX6_again 50 = .ok (.iload_n 2, 1) := by decide +kernel
theorem dX6_again_51 : decode cX6_again 51 = .ok (.iadd, 1) := by decide +kernel
theorem dX6_again_52 : decode cX6_again 52 = .ok (.iaload, 1) := by decide +kernel
theorem dX6_again_53 : decode cX6_again 53 = .ok (.iastore, 1) := by decide +kernel
theorem dX6_again_54 : decode cX6_again 54 = .ok (.iinc 2 1, 3) := by decide +kernel
theorem dX6_again_57 : decode cX6_again 57 = .ok (.goto (-26), 3) := by decide +kernel
theorem dX6_again_60 : decode cX6_again 60 = .ok (.aload_n 0, 1) := by decide +kernel
theorem dX6_again_61 : decode cX6_again 61 = .ok (.iconst 0, 1) := by decide +kernel
theorem dX6_again_62 : decode cX6_again 62 = .ok (.putfield 97, 3) := by decide +kernel
theorem dX6_again_65 : decode cX6_again 65 = .ok (.aload_n 0, 1) := by decide +kernel
theorem dX6_again_66 : decode cX6_again 66 = .ok (.getfield 25, 3) := by decide +kernel
theorem dX6_again_69 : decode cX6_again 69 = .ok (.bipush 12, 2) := by decide +kernel
theorem dX6_again_71 : decode cX6_again 71 = .ok (.iaload, 1) := by decide +kernel
theorem dX6_again_72 : decode cX6_again 72 = .ok (.invokestatic 120, 3) := by decide +kernel
theorem dX6_again_75 : decode cX6_again 75 = .ok (.ireturn, 1) := by decide +kernel
