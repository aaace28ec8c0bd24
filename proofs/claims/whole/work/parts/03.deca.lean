set_option maxRecDepth 20000 in
theorem ggX0_init_X3_init : GoodIn wsX0_init wsX3_init := goodIn_r _ [12, 13, 2, 3, 14, 15, 16, 17, 18, 19, 20, 21, 22, 23, 27, 28, 29, 30, 31, 32, 33, 34, 35] (by decide +kernel) (by decide +kernel)
set_option maxRecDepth 20000 in
theorem gX0_init_X3_init : GoodIn wsX0_init (wsX3_init) := ggX0_init_X3_init
theorem dX0_init_0 : decode cX0_init 0 = .ok (.aload_n 0, 1) := by decide +kernel
theorem dX0_init_1 : decode cX0_init 1 = .ok (.invokespecial 3, 3) := by decide +kernel
theorem dX0_init_4 : decode cX0_init 4 = .ok (.aload_n 0, 1) := by decide +kernel
theorem dX0_init_5 : decode cX0_init 5 = .ok (.bipush 12, 2) := by decide +kernel
theorem dX0_init_7 : decode cX0_init 7 = .ok (.anewarray 9, 3) := by decide +kernel
theorem dX0_init_10 : decode cX0_init 10 = .ok (.putfield 11, 3) := by decide +kernel
theorem dX0_init_13 : decode cX0_init 13 = .ok (.aload_n 0, 1) := by decide +kernel
theorem dX0_init_14 : decode cX0_init 14 = .ok (.iconst 0, 1) := by decide +kernel
theorem dX0_init_15 : decode cX0_init 15 = .ok (.putfield 17, 3) := by decide +kernel
theorem dX0_init_18 : decode cX0_init 18 = .ok (.aload_n 0, 1) := by decide +kernel
theorem dX0_init_19 : decode cX0_init 19 = .ok (.iconst 0, 1) := by decide +kernel
theorem dX0_init_20 : decode cX0_init 20 = .ok (.putfield 21, 3) := by decide +kernel
theorem dX0_init_23 : decode cX0_init 23 = .ok (.iconst 0, 1) := by decide +kernel
theorem dX0_init_24 : decode cX0_init 24 = .ok (.istore_n 2, 1) := by decide +kernel
theorem dX0_init_25 : decode cX0_init 25 = .ok (.iload_n 2, 1) := by decide +kernel
theorem dX0_init_26 : decode cX0_init 26 = .ok (.bipush 12, 2) := by decide +kernel
theorem dX0_init_28 : decode cX0_init 28 = .ok (.if_icmp .ge 23, 3) := by decide +kernel
theorem dX0_init_31 : decode cX0_init 31 = .ok (.aload_n 0, 1) := by decide +kernel
theorem dX0_init_32 : decode cX0_init 32 = .ok (.getfield 11, 3) := by decide +kernel
theorem dX0_init_35 : decode cX0_init 35 = .ok (.iload_n 2, 1) := by decide +kernel
theorem dX0_init_36 : decode cX0_init 36 = .ok (.new 9, 3) := by decide +kernel
theorem dX0_init_39 : decode cX0_init 39 = .ok (.dup, 1) := by decide +kernel
theorem dX0_init_40 : decode cX0_init 40 = .ok (.aload_n 1, 1) := by decide +kernel
theorem dX0_init_41 : decode cX0_init 41 = .ok (.invokespecial 24, 3) := by decide +kernel
theorem dX0_init_44 : decode cX0_init 44 = .ok (.aastore, 1) := by decide +kernel
theorem dX0_init_45 : decode cX0_init 45 = .ok (.iinc 2 1, 3) := by decide +kernel
theorem dX0_init_48 : decode cX0_init 48 = .ok (.goto (-23), 3) := by decide +kernel
theorem dX0_init_51 : decode cX0_init 51 = .ok (.return_, 1) := by decide +kernel
set_option maxRecDepth 20000 in
theorem ggX0_remember_X3_copy : GoodIn wsX0_remember wsX3_copy := goodIn_r _ [8, 9, 10, 11, 12, 13, 14, 15, 16, 17, 18, 19, 20, 24, 25, 26, 27, 28, 29, 30, 31, 32] (by decide +kernel) (by decide +kernel)
set_option maxRecDepth 20000 in
theorem gX0_remember_X3_copy : GoodIn wsX0_remember (wsV RX0 27 RX3 yX3_copy wsX3_copy) := goodIn_app (goodIn_of _ (by decide +kernel)) ggX0_remember_X3_copy
theorem dX0_remember_0 : decode cX0_remember 0 = .ok (.aload_n 0, 1) := by decide +kernel
theorem dX0_remember_1 : decode cX0_remember 1 = .ok (.getfield 11, 3) := by decide +kernel
theorem dX0_remember_4 : decode cX0_remember 4 = .ok (.aload_n 0, 1) := by decide +kernel
theorem dX0_remember_5 : decode cX0_remember 5 = .ok (.getfield 17, 3) := by decide +kernel
theorem dX0_remember_8 : decode cX0_remember 8 = .ok (.aload_n 0, 1) := by decide +kernel
theorem dX0_remember_9 : decode cX0_remember 9 = .ok (.getfield 21, 3) := by decide +kernel
theorem dX0_remember_12 : decode cX0_remember 12 = .ok (.iadd, 1) := by decide +kernel
theorem dX0_remember_13 : decode cX0_remember 13 = .ok (.bipush 12, 2) := by decide +kernel
theorem dX0_remember_15 : decode cX0_remember 15 = .ok (.irem, 1) := by decide +kernel
theorem dX0_remember_16 : decode cX0_remember 16 = .ok (.aaload, 1) := by decide +kernel
theorem dX0_remember_17 : decode cX0_remember 17 = .ok (.aload_n 1, 1) := by decide +kernel
theorem dX0_remember_18 : decode cX0_remember 18 = .ok (.invokevirtual 27, 3) := by decide +kernel
theorem dX0_remember_21 : decode cX0_remember 21 = .ok (.aload_n 0, 1) := by decide +kernel
theorem dX0_remember_22 : decode cX0_remember 22 = .ok (.getfield 21, 3) := by decide +kernel
theorem dX0_remember_25 : decode cX0_remember 25 = .ok (.bipush 12, 2) := by decide +kernel
theorem dX0_remember_27 : decode cX0_remember 27 = .ok (.if_icmp .ge 16, 3) := by decide +kernel
theorem dX0_remember_30 : decode cX0_remember 30 = .ok (.aload_n 0, 1) := by decide +kernel
theorem dX0_remember_31 : decode cX0_remember 31 = .ok (.dup, 1) := by decide +kernel
theorem dX0_remember_32 : decode cX0_remember 32 = .ok (.getfield 21, 3) := by decide +kernel
theorem dX0_remember_35 : decode cX0_remember 35 = .ok (.iconst 1, 1) := by decide +kernel
theorem dX0_remember_36 : decode cX0_remember 36 = .ok (.iadd, 1) := by decide +kernel
theorem dX0_remember_37 : decode cX0_remember 37 = .ok (.putfield 21, 3) := by decide +kernel
theorem dX0_remember_40 : decode cX0_remember 40 = .ok (.goto 16, 3) := by decide +kernel
theorem dX0_remember_43 : decode cX0_remember 43 = .ok (.aload_n 0, 1) := by decide +kernel
theorem dX0_remember_44 : decode cX0_remember 44 = .ok (.aload_n 0, 1) := by decide +kernel
theorem dX0_remember_45 : decode cX0_remember 45 = .ok (.getfield 17, 3) := by decide +kernel
theorem dX0_remember_48 : decode cX0_remember 48 = .ok (.iconst 1, 1) := by decide +kernel
theorem dX0_remember_49 : decode cX0_remember 49 = .ok (.iadd, 1) := by decide +kernel
theorem dX0_remember_50 : decode cX0_remember 50 = .ok (.bipush 12, 2) := by decide +kernel
theorem dX0_remember_52 : decode cX0_remember 52 = .ok (.irem, 1) := by decide +kernel
theorem dX0_remember_53 : decode cX0_remember 53 = .ok (.putfield 17, 3) := by decide +kernel
theorem dX0_remember_56 : decode cX0_remember 56 = .ok (.return_, 1) := by decide +kernel
set_option maxRecDepth 20000 in
theorem ggX0_takeBackInto_X3_copy : GoodIn wsX0_takeBackInto wsX3_copy := goodIn_r _ [8, 9, 10, 11, 12, 13, 14, 15, 16, 17, 18, 19, 20, 24, 25, 26, 27, 28, 29, 30, 31, 32] (by decide +kernel) (by decide +kernel)
set_option maxRecDepth 20000 in
theorem gX0_takeBackInto_X3_copy : GoodIn wsX0_takeBackInto (wsV RX0 27 RX3 yX3_copy wsX3_copy) := goodIn_app (goodIn_of _ (by decide +kernel)) ggX0_takeBackInto_X3_copy
theorem dX0_takeBackInto_0 : decode cX0_takeBackInto 0 = .ok (.aload_n 0, 1) := by decide +kernel
theorem dX0_takeBackInto_1 : decode cX0_takeBackInto 1 = .ok (.getfield 21, 3) := by decide +kernel
theorem dX0_takeBackInto_4 : decode cX0_takeBackInto 4 = .ok (.ifCond .le 34, 3) := by decide +kernel
theorem dX0_takeBackInto_7 : decode cX0_takeBackInto 7 = .ok (.aload_n 0, 1) := by decide +kernel
theorem dX0_takeBackInto_8 : decode cX0_takeBackInto 8 = .ok (.dup, 1) := by decide +kernel
theorem dX0_takeBackInto_9 : decode cX0_takeBackInto 9 = .ok (.getfield 21, 3) := by decide +kernel
theorem dX0_takeBackInto_12 : decode cX0_takeBackInto 12 = .ok (.iconst 1, 1) := by decide +kernel
theorem dX0_takeBackInto_13 : decode cX0_takeBackInto 13 = .ok (.isub, 1) := by decide +kernel
theorem dX0_takeBackInto_14 : decode cX0_takeBackInto 14 = .ok (.putfield 21, 3) := by decide +kernel
theorem dX0_takeBackInto_17 : decode cX0_takeBackInto 17 = .ok (.aload_n 1, 1) := by decide +kernel
theorem dX0_takeBackInto_18 : decode cX0_takeBackInto 18 = .ok (.aload_n 0, 1) := by decide +kernel
theorem dX0_takeBackInto_19 : decode cX0_takeBackInto 19 = .ok (.getfield 11, 3) := by decide +kernel
theorem dX0_takeBackInto_22 : decode cX0_takeBackInto 22 = .ok (.aload_n 0, 1) := by decide +kernel
theorem dX0_takeBackInto_23 : decode cX0_takeBackInto 23 = .ok (.getfield 17, 3) := by decide +kernel
theorem dX0_takeBackInto_26 : decode cX0_takeBackInto 26 = .ok (.aload_n 0, 1) := by decide +kernel
theorem dX0_takeBackInto_27 : decode cX0_takeBackInto 27 = .ok (.getfield 21, 3) := by decide +kernel
theorem dX0_takeBackInto_30 : decode cX0_takeBackInto 30 = .ok (.iadd, 1) := by decide +kernel
theorem dX0_takeBackInto_31 : decode cX0_takeBackInto 31 = .ok (.bipush 12, 2) := by decide +kernel
theorem dX0_takeBackInto_33 : decode cX0_takeBackInto 33 = .ok (.irem, 1) := by decide +kernel
theorem dX0_takeBackInto_34 : decode cX0_takeBackInto 34 = .ok (.aaload, 1) := by decide +kernel
theorem dX0_takeBackInto_35 : decode cX0_takeBackInto 35 = .ok (.invokevirtual 27, 3) := by decide +kernel
theorem dX0_takeBackInto_38 : decode cX0_takeBackInto 38 = .ok (.return_, 1) := by decide +kernel
theorem dX0_forgetAll_0 : decode cX0_forgetAll 0 = .ok (.aload_n 0, 1) := by decide +kernel
theorem dX0_forgetAll_1 : decode cX0_forgetAll 1 = .ok (.iconst 0, 1) := by decide +kernel
theorem dX0_forgetAll_2 : decode cX0_forgetAll 2 = .ok (.putfield 17, 3) := by decide +kernel
theorem dX0_forgetAll_5 : decode cX0_forgetAll 5 = .ok (.aload_n 0, 1) := by decide +kernel
theorem dX0_forgetAll_6 : decode cX0_forgetAll 6 = .ok (.iconst 0, 1) := by decide +kernel
theorem dX0_forgetAll_7 : decode cX0_forgetAll 7 = .ok (.putfield 21, 3) := by decide +kernel
theorem dX0_forgetAll_10 : decode cX0_forgetAll 10 = .ok (.return_, 1) := by decide +kernel
theorem dX1_init_0 : decode cX1_init 0 = .ok (.aload_n 0, 1) := by decide +kernel
theorem dX1_init_1 : decode cX1_init 1 = .ok (.invokespecial 1, 3) := by decide +kernel
theorem dX1_init_4 : decode cX1_init 4 = .ok (.aload_n 0, 1) := by decide +kernel
theorem dX1_init_5 : decode cX1_init 5 = .ok (.iconst (-1), 1) := by decide +kernel
theorem dX1_init_6 : decode cX1_init 6 = .ok (.putfield 7, 3) := by decide +kernel
theorem dX1_init_9 : decode cX1_init 9 = .ok (.aload_n 0, 1) := by decide +kernel
theorem dX1_init_10 : decode cX1_init 10 = .ok (.iconst 0, 1) := by decide +kernel
theorem dX1_init_11 : decode cX1_init 11 = .ok (.putfield 13, 3) := by decide +kernel
theorem dX1_init_14 : decode cX1_init 14 = .ok (.return_, 1) := by decide +kernel
theorem dX1_clear_0 : decode cX1_clear 0 = .ok (.aload_n 0, 1) := by decide +kernel
theorem dX1_clear_1 : decode cX1_clear 1 = .ok (.iconst (-1), 1) := by decide +kernel
theorem dX1_clear_2 : decode cX1_clear 2 = .ok (.putfield 7, 3) := by decide +kernel
theorem dX1_clear_5 : decode cX1_clear 5 = .ok (.aload_n 0, 1) := by decide +kernel
theorem dX1_clear_6 : decode cX1_clear 6 = .ok (.iconst 0, 1) := by decide +kernel
theorem dX1_clear_7 : decode cX1_clear 7 = .ok (.putfield 13, 3) := by decide +kernel
theorem dX1_clear_10 : decode cX1_clear 10 = .ok (.return_, 1) := by decide +kernel
theorem dX1_offer_0 : decode cX1_offer 0 = .ok (.iload_n 1, 1) := by decide +kernel
theorem dX1_offer_1 : decode cX1_offer 1 = .ok (.aload_n 0, 1) := by decide +kernel
theorem dX1_offer_2 : decode cX1_offer 2 = .ok (.getfield 7, 3) := by decide +kernel
theorem dX1_offer_5 : decode cX1_offer 5 = .ok (.if_icmp .le 13, 3) := by decide +kernel
theorem dX1_offer_8 : decode cX1_offer 8 = .ok (.aload_n 0, 1) := by decide +kernel
theorem dX1_offer_9 : decode cX1_offer 9 = .ok (.iload_n 1, 1) := by decide +kernel
theorem dX1_offer_10 : decode cX1_offer 10 = .ok (.putfield 7, 3) := by decide +kernel
theorem dX1_offer_13 : decode cX1_offer 13 = .ok (.aload_n 0, 1) := by decide +kernel
theorem dX1_offer_14 : decode cX1_offer 14 = .ok (.iload_n 2, 1) := by decide +kernel
theorem dX1_offer_15 : decode cX1_offer 15 = .ok (.putfield 13, 3) := by decide +kernel
theorem dX1_offer_18 : decode cX1_offer 18 = .ok (.return_, 1) := by decide +kernel
theorem dX2_init_0 : decode cX2_init 0 = .ok (.aload_n 0, 1) := by decide +kernel
theorem dX2_init_1 : decode cX2_init 1 = .ok (.invokespecial 3, 3) := by decide +kernel
theorem dX2_init_4 : decode cX2_init 4 = .ok (.aload_n 0, 1) := by decide +kernel
theorem dX2_init_5 : decode cX2_init 5 = .ok (.iconst 0, 1) := by decide +kernel
theorem dX2_init_6 : decode cX2_init 6 = .ok (.putfield 9, 3) := by decide +kernel
theorem dX2_init_9 : decode cX2_init 9 = .ok (.aload_n 0, 1) := by decide +kernel
theorem dX2_init_10 : decode cX2_init 10 = .ok (.iconst 0, 1) := by decide +kernel
theorem dX2_init_11 : decode cX2_init 11 = .ok (.putfield 15, 3) := by decide +kernel
theorem dX2_init_14 : decode cX2_init 14 = .ok (.aload_n 0, 1) := by decide +kernel
theorem dX2_init_15 : decode cX2_init 15 = .ok (.bipush 36, 2) := by decide +kernel
theorem dX2_init_17 : decode cX2_init 17 = .ok (.newarray .int, 2) := by decide +kernel
theorem dX2_init_19 : decode cX2_init 19 = .ok (.putfield 18, 3) := by decide +kernel
theorem dX2_init_22 : decode cX2_init 22 = .ok (.aload_n 0, 1) := by decide +kernel
theorem dX2_init_23 : decode cX2_init 23 = .ok (.bipush 12, 2) := by decide +kernel
theorem dX2_init_25 : decode cX2_init 25 = .ok (.newarray .int, 2) := by decide +kernel
theorem dX2_init_27 : decode cX2_init 27 = .ok (.putfield 22, 3) := by decide +kernel
theorem dX2_init_30 : decode cX2_init 30 = .ok (.return_, 1) := by decide +kernel
set_option maxRecDepth 20000 in
theorem ggX2_learn_X4_byteAt : GoodIn wsX2_learn wsX4_byteAt := goodIn_r _ [9, 10, 11, 20, 21] (by decide +kernel) (by decide +kernel)
set_option maxRecDepth 20000 in
theorem gX2_learn_X4_byteAt : GoodIn wsX2_learn (wsV RX2 30 RX4 yX4_byteAt wsX4_byteAt) := goodIn_app (goodIn_of _ (by decide +kernel)) ggX2_learn_X4_byteAt
set_option maxRecDepth 20000 in
theorem ggX2_learn_X2_copyFigures : GoodIn wsX2_learn wsX2_copyFigures := goodIn_r _ [15, 5, 6, 7, 8, 9, 10, 11, 20, 21] (by decide +kernel) (by decide +kernel)
set_option maxRecDepth 20000 in
theorem gX2_learn_X2_copyFigures : GoodIn wsX2_learn (va_wsS RX2 34 yX2_copyFigures wsX2_copyFigures) := goodIn_app (goodIn_of _ (by decide +kernel)) ggX2_learn_X2_copyFigures
theorem dX2_learn_0 : decode cX2_learn 0 = .ok (.aload_n 0, 1) := by decide +kernel
theorem dX2_learn_1 : decode cX2_learn 1 = .ok (.iconst 0, 1) := by decide +kernel
theorem dX2_learn_2 : decode cX2_learn 2 = .ok (.putfield 9, 3) := by decide +kernel
theorem dX2_learn_5 : decode cX2_learn 5 = .ok (.aload_n 0, 1) := by decide +kernel
theorem dX2_learn_6 : decode cX2_learn 6 = .ok (.iconst 0, 1) := by decide +kernel
theorem dX2_learn_7 : decode cX2_learn 7 = .ok (.putfield 15, 3) := by decide +kernel
theorem dX2_learn_10 : decode cX2_learn 10 = .ok (.iconst 0, 1) := by decide +kernel
theorem dX2_learn_11 : decode cX2_learn 11 = .ok (.istore_n 2, 1) := by decide +kernel
theorem dX2_learn_12 : decode cX2_learn 12 = .ok (.iconst 1, 1) := by decide +kernel
theorem dX2_learn_13 : decode cX2_learn 13 = .ok (.istore_n 3, 1) := by decide +kernel
theorem dX2_learn_14 : decode cX2_learn 14 = .ok (.iload_n 3, 1) := by decide +kernel
theorem dX2_learn_15 : decode cX2_learn 15 = .ok (.aload_n 1, 1) := by decide +kernel
theorem dX2_learn_16 : decode cX2_learn 16 = .ok (.getfield 25, 3) := by decide +kernel
theorem dX2_learn_19 : decode cX2_learn 19 = .ok (.if_icmp .ge 86, 3) := by decide +kernel
theorem dX2_learn_22 : decode cX2_learn 22 = .ok (.aload_n 1, 1) := by decide +kernel
theorem dX2_learn_23 : decode cX2_learn 23 = .ok (.iload_n 3, 1) := by decide +kernel
theorem dX2_learn_24 : decode cX2_learn 24 = .ok (.invokevirtual 30, 3) := by decide +kernel
theorem dX2_learn_27 : decode cX2_learn 27 = .ok (.bipush 80, 2) := by decide +kernel
theorem dX2_learn_29 : decode cX2_learn 29 = .ok (.if_icmp .ne 39, 3) := by decide +kernel
theorem dX2_learn_32 : decode cX2_learn 32 = .ok (.aload_n 1, 1) := by decide +kernel
theorem dX2_learn_33 : decode cX2_learn 33 = .ok (.iload_n 3, 1) := by decide +kernel
theorem dX2_learn_34 : decode cX2_learn 34 = .ok (.iconst 1, 1) := by decide +kernel
theorem dX2_learn_35 : decode cX2_learn 35 = .ok (.iadd, 1) := by decide +kernel
theorem dX2_learn_36 : decode cX2_learn 36 = .ok (.aload_n 0, 1) := by decide +kernel
theorem dX2_learn_37 : decode cX2_learn 37 = .ok (.getfield 18, 3) := by decide +kernel
theorem dX2_learn_40 : decode cX2_learn 40 = .ok (.aload_n 0, 1) := by decide +kernel
theorem dX2_learn_41 : decode cX2_learn 41 = .ok (.getfield 9, 3) := by decide +kernel
theorem dX2_learn_44 : decode cX2_learn 44 = .ok (.bipush 6, 2) := by decide +kernel
theorem dX2_learn_46 : decode cX2_learn 46 = .ok (.imul, 1) := by decide +kernel
theorem dX2_learn_47 : decode cX2_learn 47 = .ok (.bipush 6, 2) := by decide +kernel
theorem dX2_learn_49 : decode cX2_learn 49 = .ok (.invokestatic 34, 3) := by decide +kernel
theorem dX2_learn_52 : decode cX2_learn 52 = .ok (.aload_n 0, 1) := by decide +kernel
theorem dX2_learn_53 : decode cX2_learn 53 = .ok (.dup, 1) := by decide +kernel
theorem dX2_learn_54 : decode cX2_learn 54 = .ok (.getfield 9, 3) := by decide +kernel
theorem dX2_learn_57 : decode cX2_learn 57 = .ok (.iconst 1, 1) := by decide +kernel
theorem dX2_learn_58 : decode cX2_learn 58 = .ok (.iadd, 1) := by decide +kernel
theorem dX2_learn_59 : decode cX2_learn 59 = .ok (.putfield 9, 3) := by decide +kernel
theorem dX2_learn_62 : decode cX2_learn 62 = .ok (.bipush 7, 2) := by decide +kernel
theorem dX2_learn_64 : decode cX2_learn 64 = .ok (.istore_n 2, 1) := by decide +kernel
theorem dX2_learn_65 : decode cX2_learn 65 = .ok (.goto 33, 3) := by decide +kernel
theorem dX2_learn_68 : decode cX2_learn 68 = .ok (.aload_n 1, 1) := by decide +kernel
theorem dX2_learn_69 : decode cX2_learn 69 = .ok (.iload_n 3, 1) := by decide +kernel
theorem dX2_learn_70 : decode cX2_learn 70 = .ok (.iconst 1, 1) := by decide +kernel
theorem dX2_learn_71 : decode cX2_learn 71 = .ok (.iadd, 1) := by decide +kernel
theorem dX2_learn_72 : decode cX2_learn 72 = .ok (.aload_n 0, 1) := by decide +kernel
theorem dX2_learn_73 : decode cX2_learn 73 = .ok (.getfield 22, 3) := by decide +kernel
theorem dX2_learn_76 : decode cX2_learn 76 = .ok (.aload_n 0, 1) := by decide +kernel
theorem dX2_learn_77 : decode cX2_learn 77 = .ok (.getfield 15, 3) := by decide +kernel
theorem dX2_learn_80 : decode cX2_learn 80 = .ok (.iconst 3, 1) := by decide +kernel
theorem dX2_learn_81 : decode cX2_learn 81 = .ok (.imul, 1) := by decide +kernel
theorem dX2_learn_82 : decode cX2_learn 82 = .ok (.iconst 3, 1) := by decide +kernel
theorem dX2_learn_83 : decode cX2_learn 83 = .ok (.invokestatic 34, 3) := by decide +kernel
theorem dX2_learn_86 : decode cX2_learn 86 = .ok (.aload_n 0, 1) := by decide +kernel
theorem dX2_learn_87 : decode cX2_learn 87 = .ok (.dup, 1) := by decide +kernel
theorem dX2_learn_88 : decode cX2_learn 88 = .ok (.getfield 15, 3) := by decide +kernel
theorem dX2_learn_91 : decode cX2_learn 91 = .ok (.iconst 1, 1) := by decide +kernel
theorem dX2_learn_92 : decode cX2_learn 92 = .ok (.iadd, 1) := by decide +kernel
theorem dX2_learn_93 : decode cX2_learn 93 = .ok (.putfield 15, 3) := by decide +kernel
theorem dX2_learn_96 : decode cX2_learn 96 = .ok (.iconst 4, 1) := by decide +kernel
theorem dX2_learn_97 : decode cX2_learn 97 = .ok (.istore_n 2, 1) := by decide +kernel
theorem dX2_learn_98 : decode cX2_learn 98 = .ok (.iload_n 3, 1) := by decide +kernel
theorem dX2_learn_99 : decode cX2_learn 99 = .ok (.iload_n 2, 1) := by decide +kernel
theorem dX2_learn_100 : decode cX2_learn 100 = .ok (.iadd, 1) := by decide +kernel
theorem dX2_learn_101 : decode cX2_learn 101 = .ok (.istore_n 3, 1) := by decide +kernel
theorem dX2_learn_102 : decode cX2_learn 102 = .ok (.goto (-88), 3) := by decide +kernel
theorem dX2_learn_105 : decode cX2_learn 105 = .ok (.return_, 1) := by decide +kernel
set_option maxRecDepth 20000 in
theorem ggX2_copyFigures_X4_byteAt : GoodIn wsX2_copyFigures wsX4_byteAt := goodIn_r _ [5, 6, 7, 8, 9] (by decide +kernel) (by decide +kernel)
set_option maxRecDepth 20000 in
theorem gX2_copyFigures_X4_byteAt : GoodIn wsX2_copyFigures (wsV RX2 30 RX4 yX4_byteAt wsX4_byteAt) := goodIn_app (goodIn_of _ (by decide +kernel)) ggX2_copyFigures_X4_byteAt
theorem dX2_copyFigures_0 : decode cX2_copyFigures 0 = .ok (.iconst 0, 1) := by decide +kernel
theorem dX2_copyFigures_1 : decode cX2_copyFigures 1 = .ok (.istore 5, 2) := by decide +kernel
theorem dX2_copyFigures_3 : decode cX2_copyFigures 3 = .ok (.iload 5, 2) := by decide +kernel
theorem dX2_copyFigures_5 : decode cX2_copyFigures 5 = .ok (.iload 4, 2) := by decide +kernel
theorem dX2_copyFigures_7 : decode cX2_copyFigures 7 = .ok (.if_icmp .ge 35, 3) := by decide +kernel
theorem dX2_copyFigures_10 : decode cX2_copyFigures 10 = .ok (.iload_n 3, 1) := by decide +kernel
theorem dX2_copyFigures_11 : decode cX2_copyFigures 11 = .ok (.iload 5, 2) := by decide +kernel
theorem dX2_copyFigures_13 : decode cX2_copyFigures 13 = .ok (.iadd, 1) := by decide +kernel
theorem dX2_copyFigures_14 : decode cX2_copyFigures 14 = .ok (.aload_n 2, 1) := by decide +kernel
theorem dX2_copyFigures_15 : decode cX2_copyFigures 15 = .ok (.arraylength, 1) := by decide +kernel
theorem dX2_copyFigures_16 : decode cX2_copyFigures 16 = .ok (.if_icmp .ge 26, 3) := by decide +kernel
theorem dX2_copyFigures_19 : decode cX2_copyFigures 19 = .ok (.aload_n 2, 1) := by decide +kernel
theorem dX2_copyFigures_20 : decode cX2_copyFigures 20 = .ok (.iload_n 3, 1) := by decide +kernel
theorem dX2_copyFigures_21 : decode cX2_copyFigures 21 = .ok (.iload 5, 2) := by decide +kernel
theorem dX2_copyFigures_23 : decode cX2_copyFigures 23 = .ok (.iadd, 1) := by decide +kernel
theorem dX2_copyFigures_24 : decode cX2_copyFigures 24 = .ok (.aload_n 0, 1) := by decide +kernel
theorem dX2_copyFigures_25 : decode cX2_copyFigures 25 = .ok (.iload_n 1, 1) := by decide +kernel
theorem dX2_copyFigures_26 : decode cX2_copyFigures 26 = .ok (.iload 5, 2) := by decide +kernel
theorem dX2_copyFigures_28 : decode cX2_copyFigures 28 = .ok (.iadd, 1) := by decide +kernel
theorem dX2_copyFigures_29 : decode cX2_copyFigures 29 = .ok (.invokevirtual 30, 3) := by decide +kernel
theorem dX2_copyFigures_32 : decode cX2_copyFigures 32 = .ok (.bipush 48, 2) := by decide +kernel
theorem dX2_copyFigures_34 : decode cX2_copyFigures 34 = .ok (.isub, 1) := by decide +kernel
theorem dX2_copyFigures_35 : decode cX2_copyFigures 35 = .ok (.iastore, 1) := by decide +kernel
theorem dX2_copyFigures_36 : decode cX2_copyFigures 36 = .ok (.iinc 5 1, 3) := by decide +kernel
theorem dX2_copyFigures_39 : decode cX2_copyFigures 39 = .ok (.goto (-36), 3) := by decide +kernel
theorem dX2_copyFigures_42 : decode cX2_copyFigures 42 = .ok (.return_, 1) := by decide +kernel
set_option maxRecDepth 20000 in
theorem ggX2_hasPerson_X5_isWithin : GoodIn wsX2_hasPerson wsX5_isWithin := goodIn_r _ [4] (by decide +kernel) (by decide +kernel)
set_option maxRecDepth 20000 in
theorem gX2_hasPerson_X5_isWithin_n38 : GoodIn wsX2_hasPerson (wsX5_isWithin) := ggX2_hasPerson_X5_isWithin
theorem dX2_hasPerson_0 : decode cX2_hasPerson 0 = .ok (.iload_n 1, 1) := by decide +kernel
theorem dX2_hasPerson_1 : decode cX2_hasPerson 1 = .ok (.iconst 0, 1) := by decide +kernel
theorem dX2_hasPerson_2 : decode cX2_hasPerson 2 = .ok (.aload_n 0, 1) := by decide +kernel
theorem dX2_hasPerson_3 : decode cX2_hasPerson 3 = .ok (.getfield 9, 3) := by decide +kernel
theorem dX2_hasPerson_6 : decode cX2_hasPerson 6 = .ok (.iconst 1, 1) := by decide +kernel
theorem dX2_hasPerson_7 : decode cX2_hasPerson 7 = .ok (.isub, 1) := by decide +kernel
theorem dX2_hasPerson_8 : decode cX2_hasPerson 8 = .ok (.invokestatic 38, 3) := by decide +kernel
theorem dX2_hasPerson_11 : decode cX2_hasPerson 11 = .ok (.ireturn, 1) := by decide +kernel
set_option maxRecDepth 20000 in
theorem ggX2_hasTune_X5_isWithin : GoodIn wsX2_hasTune wsX5_isWithin := goodIn_r _ [4] (by decide +kernel) (by decide +kernel)
set_option maxRecDepth 20000 in
theorem gX2_hasTune_X5_isWithin_n38 : GoodIn wsX2_hasTune (wsX5_isWithin) := ggX2_hasTune_X5_isWithin
theorem dX2_hasTune_0 : decode cX2_hasTune 0 = .ok (.iload_n 1, 1) := by decide +kernel
theorem dX2_hasTune_1 : decode cX2_hasTune 1 = .ok (.iconst 0, 1) := by decide +kernel
theorem dX2_hasTune_2 : decode cX2_hasTune 2 = .ok (.aload_n 0, 1) := by decide +kernel
theorem dX2_hasTune_3 : decode cX2_hasTune 3 = .ok (.getfield 15, 3) := by decide +kernel
theorem dX2_hasTune_6 : decode cX2_hasTune 6 = .ok (.iconst 1, 1) := by decide +kernel
theorem dX2_hasTune_7 : decode cX2_hasTune 7 = .ok (.isub, 1) := by decide +kernel
theorem dX2_hasTune_8 : decode cX2_hasTune 8 = .ok (.invokestatic 38, 3) := by decide +kernel
theorem dX2_hasTune_11 : decode cX2_hasTune 11 = .ok (.ireturn, 1) := by decide +kernel
set_option maxRecDepth 20000 in
theorem ggX2_ofPerson_X2_figureOf : GoodIn wsX2_ofPerson wsX2_figureOf := goodIn_r _ [5] (by decide +kernel) (by decide +kernel)
set_option maxRecDepth 20000 in
theorem gX2_ofPerson_X2_figureOf : GoodIn wsX2_ofPerson (va_wsS RX2 42 yX2_figureOf wsX2_figureOf) := goodIn_app (goodIn_of _ (by decide +kernel)) ggX2_ofPerson_X2_figureOf
theorem dX2_ofPerson_0 : decode cX2_ofPerson 0 = .ok (.aload_n 0, 1) := by decide +kernel
theorem dX2_ofPerson_1 : decode cX2_ofPerson 1 = .ok (.getfield 18, 3) := by decide +kernel
theorem dX2_ofPerson_4 : decode cX2_ofPerson 4 = .ok (.iload_n 1, 1) := by decide +kernel
theorem dX2_ofPerson_5 : decode cX2_ofPerson 5 = .ok (.bipush 6, 2) := by decide +kernel
theorem dX2_ofPerson_7 : decode cX2_ofPerson 7 = .ok (.iload_n 2, 1) := by decide +kernel
theorem dX2_ofPerson_8 : decode cX2_ofPerson 8 = .ok (.invokestatic 42, 3) := by decide +kernel
theorem dX2_ofPerson_11 : decode cX2_ofPerson 11 = .ok (.ireturn, 1) := by decide +kernel
set_option maxRecDepth 20000 in
theorem ggX2_ofTune_X2_figureOf : GoodIn wsX2_ofTune wsX2_figureOf := goodIn_r _ [5] (by decide +kernel) (by decide +kernel)
set_option maxRecDepth 20000 in
theorem gX2_ofTune_X2_figureOf : GoodIn wsX2_ofTune (va_wsS RX2 42 yX2_figureOf wsX2_figureOf) := goodIn_app (goodIn_of _ (by decide +kernel)) ggX2_ofTune_X2_figureOf
theorem dX2_ofTune_0 : decode cX2_ofTune 0 = .ok (.aload_n 0, 1) := by decide +kernel
theorem dX2_ofTune_1 : decode cX2_ofTune 1 = .ok (.getfield 22, 3) := by decide +kernel
theorem dX2_ofTune_4 : decode cX2_ofTune 4 = .ok (.iload_n 1, 1) := by decide +kernel
theorem dX2_ofTune_5 : decode cX2_ofTune 5 = .ok (.iconst 3, 1) := by decide +kernel
theorem dX2_ofTune_6 : decode cX2_ofTune 6 = .ok (.iload_n 2, 1) := by decide +kernel
theorem dX2_ofTune_7 : decode cX2_ofTune 7 = .ok (.invokestatic 42, 3) := by decide +kernel
theorem dX2_ofTune_10 : decode cX2_ofTune 10 = .ok (.ireturn, 1) := by decide +kernel
theorem dX2_figureOf_0 : decode cX2_figureOf 0 = .ok (.iload_n 1, 1) := by decide +kernel
theorem dX2_figureOf_1 : decode cX2_figureOf 1 = .ok (.iload_n 2, 1) := by decide +kernel
theorem dX2_figureOf_2 : decode cX2_figureOf 2 = .ok (.imul, 1) := by decide +kernel
theorem dX2_figureOf_3 : decode cX2_figureOf 3 = .ok (.iload_n 3, 1) := by decide +kernel
theorem dX2_figureOf_4 : decode cX2_figureOf 4 = .ok (.iadd, 1) := by decide +kernel
theorem dX2_figureOf_5 : decode cX2_figureOf 5 = .ok (.istore 4, 2) := by decide +kernel
theorem dX2_figureOf_7 : decode cX2_figureOf 7 = .ok (.iload 4, 2) := by decide +kernel
theorem dX2_figureOf_9 : decode cX2_figureOf 9 = .ok (.ifCond .lt 17, 3) := by decide +kernel
theorem dX2_figureOf_12 : decode cX2_figureOf 12 = .ok (.iload 4, 2) := by decide +kernel
theorem dX2_figureOf_14 : decode cX2_figureOf 14 = .ok (.aload_n 0, 1) := by decide +kernel
theorem dX2_figureOf_15 : decode cX2_figureOf 15 = .ok (.arraylength, 1) := by decide +kernel
theorem dX2_figureOf_16 : decode cX2_figureOf 16 = .ok (.if_icmp .ge 10, 3) := by decide +kernel
theorem dX2_figureOf_19 : decode cX2_figureOf 19 = .ok (.aload_n 0, 1) := by decide +kernel
theorem dX2_figureOf_20 : decode cX2_figureOf 20 = .ok (.iload 4, 2) := by decide +kernel
theorem dX2_figureOf_22 : decode cX2_figureOf 22 = .ok (.iaload, 1) := by decide +kernel
theorem dX2_figureOf_23 : decode cX2_figureOf 23 = .ok (.goto 4, 3) := by decide +kernel
theorem dX2_figureOf_26 : decode cX2_figureOf 26 = .ok (.iconst 0, 1) := by decide +kernel
theorem dX2_figureOf_27 : decode cX2_figureOf 27 = .ok (.ireturn, 1) := by decide +kernel
theorem dX3_init_0 : decode cX3_init 0 = .ok (.aload_n 0, 1) := by decide +kernel
theorem dX3_init_1 : decode cX3_init 1 = .ok (.invokespecial 3, 3) := by decide +kernel
theorem dX3_init_4 : decode cX3_init 4 = .ok (.aload_n 0, 1) := by decide +kernel
theorem dX3_init_5 : decode cX3_init 5 = .ok (.iconst 0, 1) := by decide +kernel
theorem dX3_init_6 : decode cX3_init 6 = .ok (.putfield 9, 3) := by decide +kernel
theorem dX3_init_9 : decode cX3_init 9 = .ok (.aload_n 0, 1) := by decide +kernel
theorem dX3_init_10 : decode cX3_init 10 = .ok (.iconst 0, 1) := by decide +kernel
theorem dX3_init_11 : decode cX3_init 11 = .ok (.putfield 15, 3) := by decide +kernel
theorem dX3_init_14 : decode cX3_init 14 = .ok (.aload_n 0, 1) := by decide +kernel
theorem dX3_init_15 : decode cX3_init 15 = .ok (.iconst 0, 1) := by decide +kernel
theorem dX3_init_16 : decode cX3_init 16 = .ok (.putfield 18, 3) := by decide +kernel
theorem dX3_init_19 : decode cX3_init 19 = .ok (.aload_n 0, 1) := by decide +kernel
theorem dX3_init_20 : decode cX3_init 20 = .ok (.iconst 0, 1) := by decide +kernel
theorem dX3_init_21 : decode cX3_init 21 = .ok (.putfield 21, 3) := by decide +kernel
theorem dX3_init_24 : decode cX3_init 24 = .ok (.aload_n 0, 1) := by decide +kernel
theorem dX3_init_25 : decode cX3_init 25 = .ok (.iconst 0, 1) := by decide +kernel
theorem dX3_init_26 : decode cX3_init 26 = .ok (.putfield 24, 3) := by decide +kernel
theorem dX3_init_29 : decode cX3_init 29 = .ok (.aload_n 0, 1) := by decide +kernel
theorem dX3_init_30 : decode cX3_init 30 = .ok (.bipush 6, 2) := by decide +kernel
theorem dX3_init_32 : decode cX3_init 32 = .ok (.newarray .int, 2) := by decide +kernel
theorem dX3_init_34 : decode cX3_init 34 = .ok (.putfield 27, 3) := by decide +kernel
theorem dX3_init_37 : decode cX3_init 37 = .ok (.aload_n 0, 1) := by decide +kernel
theorem dX3_init_38 : decode cX3_init 38 = .ok (.bipush 6, 2) := by decide +kernel
theorem dX3_init_40 : decode cX3_init 40 = .ok (.newarray .int, 2) := by decide +kernel
theorem dX3_init_42 : decode cX3_init 42 = .ok (.putfield 31, 3) := by decide +kernel
theorem dX3_init_45 : decode cX3_init 45 = .ok (.aload_n 0, 1) := by decide +kernel
theorem dX3_init_46 : decode cX3_init 46 = .ok (.iconst 4, 1) := by decide +kernel
theorem dX3_init_47 : decode cX3_init 47 = .ok (.newarray .int, 2) := by decide +kernel
theorem dX3_init_49 : decode cX3_init 49 = .ok (.putfield 34, 3) := by decide +kernel
theorem dX3_init_52 : decode cX3_init 52 = .ok (.aload_n 0, 1) := by decide +kernel
theorem dX3_init_53 : decode cX3_init 53 = .ok (.aload_n 1, 1) := by decide +kernel
theorem dX3_init_54 : decode cX3_init 54 = .ok (.putfield 37, 3) := by decide +kernel
theorem dX3_init_57 : decode cX3_init 57 = .ok (.return_, 1) := by decide +kernel
theorem dX3_copy_0 : decode cX3_copy 0 = .ok (.aload_n 0, 1) := by decide +kernel
theorem dX3_copy_1 : decode cX3_copy 1 = .ok (.aload_n 1, 1) := by decide +kernel
theorem dX3_copy_2 : decode cX3_copy 2 = .ok (.getfield 9, 3) := by decide +kernel
theorem dX3_copy_5 : decode cX3_copy 5 = .ok (.putfield 9, 3) := by decide +kernel
theorem dX3_copy_8 : decode cX3_copy 8 = .ok (.aload_n 0, 1) := by decide +kernel
theorem dX3_copy_9 : decode cX3_copy 9 = .ok (.aload_n 1, 1) := by decide +kernel
theorem dX3_copy_10 : decode cX3_copy 10 = .ok (.getfield 15, 3) := by decide +kernel
theorem dX3_copy_13 : decode cX3_copy 13 = .ok (.putfield 15, 3) := by decide +kernel
theorem dX3_copy_16 : decode cX3_copy 16 = .ok (.aload_n 0, 1) := by decide +kernel
theorem dX3_copy_17 : decode cX3_copy 17 = .ok (.aload_n 1, 1) := by decide +kernel
theorem dX3_copy_18 : decode cX3_copy 18 = .ok (.getfield 18, 3) := by decide +kernel
theorem dX3_copy_21 : decode cX3_copy 21 = .ok (.putfield 18, 3) := by decide +kernel
theorem dX3_copy_24 : decode cX3_copy 24 = .ok (.aload_n 0, 1) := by decide +kernel
theorem dX3_copy_25 : decode cX3_copy 25 = .ok (.aload_n 1, 1) := by decide +kernel
theorem dX3_copy_26 : decode cX3_copy 26 = .ok (.getfield 21, 3) := by decide +kernel
theorem dX3_copy_29 : decode cX3_copy 29 = .ok (.putfield 21, 3) := by decide +kernel
theorem dX3_copy_32 : decode cX3_copy 32 = .ok (.aload_n 0, 1) := by decide +kernel
theorem dX3_copy_33 : decode cX3_copy 33 = .ok (.aload_n 1, 1) := by decide +kernel
theorem dX3_copy_34 : decode cX3_copy 34 = .ok (.getfield 24, 3) := by decide +kernel
theorem dX3_copy_37 : decode cX3_copy 37 = .ok (.putfield 24, 3) := by decide +kernel
theorem dX3_copy_40 : decode cX3_copy 40 = .ok (.aload_n 1, 1) := by decide +kernel
theorem dX3_copy_41 : decode cX3_copy 41 = .ok (.getfield 27, 3) := by decide +kernel
theorem dX3_copy_44 : decode cX3_copy 44 = .ok (.iconst 0, 1) := by decide +kernel
theorem dX3_copy_45 : decode cX3_copy 45 = .ok (.aload_n 0, 1) := by decide +kernel
theorem dX3_copy_46 : decode cX3_copy 46 = .ok (.getfield 27, 3) := by decide +kernel
theorem dX3_copy_49 : decode cX3_copy 49 = .ok (.iconst 0, 1) := by decide +kernel
theorem dX3_copy_50 : decode cX3_copy 50 = .ok (.bipush 6, 2) := by decide +kernel
theorem dX3_copy_52 : decode cX3_copy 52 = .ok (.invokestatic 41, 3) := by decide +kernel
theorem dX3_copy_55 : decode cX3_copy 55 = .ok (.aload_n 1, 1) := by decide +kernel
theorem dX3_copy_56 : decode cX3_copy 56 = .ok (.getfield 31, 3) := by decide +kernel
theorem dX3_copy_59 : decode cX3_copy 59 = .ok (.iconst 0, 1) := by decide +kernel
theorem dX3_copy_60 : decode cX3_copy 60 = .ok (.aload_n 0, 1) := by decide +kernel
theorem dX3_copy_61 : decode cX3_copy 61 = .ok (.getfield 31, 3) := by decide +kernel
theorem dX3_copy_64 : decode cX3_copy 64 = .ok (.iconst 0, 1) := by decide +kernel
theorem dX3_copy_65 : decode cX3_copy 65 = .ok (.bipush 6, 2) := by decide +kernel
theorem dX3_copy_67 : decode cX3_copy 67 = .ok (.invokestatic 41, 3) := by decide +kernel
theorem dX3_copy_70 : decode cX3_copy 70 = .ok (.aload_n 1, 1) := by decide +kernel
theorem dX3_copy_71 : decode cX3_copy 71 = .ok (.getfield 34, 3) := by decide +kernel
theorem dX3_copy_74 : decode cX3_copy 74 = .ok (.iconst 0, 1) := by decide +kernel
theorem dX3_copy_75 : decode cX3_copy 75 = .ok (.aload_n 0, 1) := by decide +kernel
theorem dX3_copy_76 : decode cX3_copy 76 = .ok (.getfield 34, 3) := by decide +kernel
theorem dX3_copy_79 : decode cX3_copy 79 = .ok (.iconst 0, 1) := by decide +kernel
theorem dX3_copy_80 : decode cX3_copy 80 = .ok (.iconst 4, 1) := by decide +kernel
theorem dX3_copy_81 : decode cX3_copy 81 = .ok (.invokestatic 41, 3) := by decide +kernel
theorem dX3_copy_84 : decode cX3_copy 84 = .ok (.return_, 1) := by decide +kernel
set_option maxRecDepth 20000 in
theorem ggX3_open_J7_fill_53178 : GoodIn wsX3_open wsJ7_fill_53178 := goodIn_r _ [13] (by decide +kernel) (by decide +kernel)
set_option maxRecDepth 20000 in
theorem gX3_open_J7_fill_53178 : GoodIn wsX3_open (va_wsS RX3 47 yJ7_fill_53178 wsJ7_fill_53178) := goodIn_app (goodIn_of _ (by decide +kernel)) ggX3_open_J7_fill_53178
set_option maxRecDepth 20000 in
theorem ggX3_open_X2_ofPerson : GoodIn wsX3_open wsX2_ofPerson := goodIn_r _ [18, 19, 20, 21, 17, 22, 40, 41, 42, 43] (by decide +kernel) (by decide +kernel)
set_option maxRecDepth 20000 in
theorem gX3_open_X2_ofPerson : GoodIn wsX3_open (wsV RX3 53 RX2 yX2_ofPerson wsX2_ofPerson) := goodIn_app (goodIn_of _ (by decide +kernel)) ggX3_open_X2_ofPerson
set_option maxRecDepth 20000 in
theorem ggX3_open_X2_hasPerson : GoodIn wsX3_open wsX2_hasPerson := goodIn_r _ [26, 27, 28, 29, 30, 40, 41, 42, 43] (by decide +kernel) (by decide +kernel)
set_option maxRecDepth 20000 in
theorem gX3_open_X2_hasPerson : GoodIn wsX3_open (wsV RX3 59 RX2 yX2_hasPerson wsX2_hasPerson) := goodIn_app (goodIn_of _ (by decide +kernel)) ggX3_open_X2_hasPerson
theorem dX3_open_0 : decode cX3_open 0 = .ok (.aload_n 0, 1) := by decide +kernel
theorem dX3_open_1 : decode cX3_open 1 = .ok (.iconst 0, 1) := by decide +kernel
theorem dX3_open_2 : decode cX3_open 2 = .ok (.putfield 9, 3) := by decide +kernel
theorem dX3_open_5 : decode cX3_open 5 = .ok (.aload_n 0, 1) := by decide +kernel
theorem dX3_open_6 : decode cX3_open 6 = .ok (.iconst 0, 1) := by decide +kernel
theorem dX3_open_7 : decode cX3_open 7 = .ok (.putfield 15, 3) := by decide +kernel
theorem dX3_open_10 : decode cX3_open 10 = .ok (.aload_n 0, 1) := by decide +kernel
theorem dX3_open_11 : decode cX3_open 11 = .ok (.iconst 0, 1) := by decide +kernel
theorem dX3_open_12 : decode cX3_open 12 = .ok (.putfield 18, 3) := by decide +kernel
theorem dX3_open_15 : decode cX3_open 15 = .ok (.aload_n 0, 1) := by decide +kernel
theorem dX3_open_16 : decode cX3_open 16 = .ok (.iconst 0, 1) := by decide +kernel
theorem dX3_open_17 : decode cX3_open 17 = .ok (.putfield 21, 3) := by decide +kernel
theorem dX3_open_20 : decode cX3_open 20 = .ok (.aload_n 0, 1) := by decide +kernel
theorem dX3_open_21 : decode cX3_open 21 = .ok (.iconst 0, 1) := by decide +kernel
theorem dX3_open_22 : decode cX3_open 22 = .ok (.putfield 24, 3) := by decide +kernel
theorem dX3_open_25 : decode cX3_open 25 = .ok (.aload_n 0, 1) := by decide +kernel
theorem dX3_open_26 : decode cX3_open 26 = .ok (.getfield 34, 3) := by decide +kernel
theorem dX3_open_29 : decode cX3_open 29 = .ok (.iconst 0, 1) := by decide +kernel
theorem dX3_open_30 : decode cX3_open 30 = .ok (.invokestatic 47, 3) := by decide +kernel
theorem dX3_open_33 : decode cX3_open 33 = .ok (.iconst 0, 1) := by decide +kernel
theorem dX3_open_34 : decode cX3_open 34 = .ok (.istore_n 1, 1) := by decide +kernel
theorem dX3_open_35 : decode cX3_open 35 = .ok (.iload_n 1, 1) := by decide +kernel
theorem dX3_open_36 : decode cX3_open 36 = .ok (.bipush 6, 2) := by decide +kernel
theorem dX3_open_38 : decode cX3_open 38 = .ok (.if_icmp .ge 108, 3) := by decide +kernel
theorem dX3_open_41 : decode cX3_open 41 = .ok (.aload_n 0, 1) := by decide +kernel
theorem dX3_open_42 : decode cX3_open 42 = .ok (.getfield 27, 3) := by decide +kernel
theorem dX3_open_45 : decode cX3_open 45 = .ok (.iload_n 1, 1) := by decide +kernel
theorem dX3_open_46 : decode cX3_open 46 = .ok (.aload_n 0, 1) := by decide +kernel
theorem dX3_open_47 : decode cX3_open 47 = .ok (.getfield 37, 3) := by decide +kernel
theorem dX3_open_50 : decode cX3_open 50 = .ok (.iload_n 1, 1) := by decide +kernel
theorem dX3_open_51 : decode cX3_open 51 = .ok (.iconst 1, 1) := by decide +kernel
theorem dX3_open_52 : decode cX3_open 52 = .ok (.invokevirtual 53, 3) := by decide +kernel
theorem dX3_open_55 : decode cX3_open 55 = .ok (.iastore, 1) := by decide +kernel
theorem dX3_open_56 : decode cX3_open 56 = .ok (.aload_n 0, 1) := by decide +kernel
theorem dX3_open_57 : decode cX3_open 57 = .ok (.getfield 31, 3) := by decide +kernel
theorem dX3_open_60 : decode cX3_open 60 = .ok (.iload_n 1, 1) := by decide +kernel
theorem dX3_open_61 : decode cX3_open 61 = .ok (.aload_n 0, 1) := by decide +kernel
theorem dX3_open_62 : decode cX3_open 62 = .ok (.getfield 37, 3) := by decide +kernel
theorem dX3_open_65 : decode cX3_open 65 = .ok (.iload_n 1, 1) := by decide +kernel
theorem dX3_open_66 : decode cX3_open 66 = .ok (.iconst 2, 1) := by decide +kernel
theorem dX3_open_67 : decode cX3_open 67 = .ok (.invokevirtual 53, 3) := by decide +kernel
theorem dX3_open_70 : decode cX3_open 70 = .ok (.iastore, 1) := by decide +kernel
theorem dX3_open_71 : decode cX3_open 71 = .ok (.aload_n 0, 1) := by decide +kernel
theorem dX3_open_72 : decode cX3_open 72 = .ok (.getfield 37, 3) := by decide +kernel
theorem dX3_open_75 : decode cX3_open 75 = .ok (.iload_n 1, 1) := by decide +kernel
theorem dX3_open_76 : decode cX3_open 76 = .ok (.invokevirtual 59, 3) := by decide +kernel
theorem dX3_open_79 : decode cX3_open 79 = .ok (.ifCond .eq 61, 3) := by decide +kernel
theorem dX3_open_82 : decode cX3_open 82 = .ok (.aload_n 0, 1) := by decide +kernel
theorem dX3_open_83 : decode cX3_open 83 = .ok (.getfield 37, 3) := by decide +kernel
theorem dX3_open_86 : decode cX3_open 86 = .ok (.iload_n 1, 1) := by decide +kernel
theorem dX3_open_87 : decode cX3_open 87 = .ok (.iconst 5, 1) := by decide +kernel
theorem dX3_open_88 : decode cX3_open 88 = .ok (.invokevirtual 53, 3) := by decide +kernel
theorem dX3_open_91 : decode cX3_open 91 = .ok (.ifCond .ne 7, 3) := by decide +kernel
theorem dX3_open_94 : decode cX3_open 94 = .ok (.iconst 1, 1) := by decide +kernel
theorem dX3_open_95 : decode cX3_open 95 = .ok (.goto 4, 3) := by decide +kernel
theorem dX3_open_98 : decode cX3_open 98 = .ok (.iconst 0, 1) := by decide +kernel
theorem dX3_open_99 : decode cX3_open 99 = .ok (.istore_n 2, 1) := by decide +kernel
theorem dX3_open_100 : decode cX3_open 100 = .ok (.aload_n 0, 1) := by decide +kernel
theorem dX3_open_101 : decode cX3_open 101 = .ok (.dup, 1) := by decide +kernel
theorem dX3_open_102 : decode cX3_open 102 = .ok (.getfield 21, 3) := by decide +kernel
theorem dX3_open_105 : decode cX3_open 105 = .ok (.iload_n 2, 1) := by decide +kernel
theorem dX3_open_106 : decode cX3_open 106 = .ok (.ifCond .eq 9, 3) := by decide +kernel
theorem dX3_open_109 : decode cX3_open 109 = .ok (.iconst 1, 1) := by decide +kernel
theorem dX3_open_110 : decode cX3_open 110 = .ok (.iload_n 1, 1) := by decide +kernel
theorem dX3_open_111 : decode cX3_open 111 = .ok (.ishl, 1) := by decide +kernel
theorem dX3_open_112 : decode cX3_open 112 = .ok (.goto 4, 3) := by decide +kernel
theorem dX3_open_115 : decode cX3_open 115 = .ok (.iconst 0, 1) := by decide +kernel
theorem dX3_open_116 : decode cX3_open 116 = .ok (.ior, 1) := by decide +kernel
theorem dX3_open_117 : decode cX3_open 117 = .ok (.putfield 21, 3) := by decide +kernel
theorem dX3_open_120 : decode cX3_open 120 = .ok (.aload_n 0, 1) := by decide +kernel
theorem dX3_open_121 : decode cX3_open 121 = .ok (.dup, 1) := by decide +kernel
theorem dX3_open_122 : decode cX3_open 122 = .ok (.getfield 24, 3) := by decide +kernel
theorem dX3_open_125 : decode cX3_open 125 = .ok (.iload_n 2, 1) := by decide +kernel
theorem dX3_open_126 : decode cX3_open 126 = .ok (.ifCond .eq 7, 3) := by decide +kernel
theorem dX3_open_129 : decode cX3_open 129 = .ok (.iconst 0, 1) := by decide +kernel
theorem dX3_open_130 : decode cX3_open 130 = .ok (.goto 6, 3) := by decide +kernel
theorem dX3_open_133 : decode cX3_open 133 = .ok (.iconst 1, 1) := by decide +kernel
theorem dX3_open_134 : decode cX3_open 134 = .ok (.iload_n 1, 1) := by decide +kernel
theorem dX3_open_135 : decode cX3_open 135 = .ok (.ishl, 1) := by decide +kernel
theorem dX3_open_136 : decode cX3_open 136 = .ok (.ior, 1) := by decide +kernel
theorem dX3_open_137 : decode cX3_open 137 = .ok (.putfield 24, 3) := by decide +kernel
theorem dX3_open_140 : decode cX3_open 140 = .ok (.iinc 1 1, 3) := by decide +kernel
theorem dX3_open_143 : decode cX3_open 143 = .ok (.goto (-108), 3) := by decide +kernel
theorem dX3_open_146 : decode cX3_open 146 = .ok (.return_, 1) := by decide +kernel
set_option maxRecDepth 20000 in
theorem ggX3_ringSize_J6_bitCount_0f7a4 : GoodIn wsX3_ringSize wsJ6_bitCount_0f7a4 := goodIn_r _ [5, 6, 7, 8] (by decide +kernel) (by decide +kernel)
set_option maxRecDepth 20000 in
theorem gX3_ringSize_J6_bitCount_0f7a4 : GoodIn wsX3_ringSize (va_wsS RX3 63 yJ6_bitCount_0f7a4 wsJ6_bitCount_0f7a4) := goodIn_app (goodIn_of _ (by decide +kernel)) ggX3_ringSize_J6_bitCount_0f7a4
theorem dX3_ringSize_0 : decode cX3_ringSize 0 = .ok (.aload_n 0, 1) := by decide +kernel
theorem dX3_ringSize_1 : decode cX3_ringSize 1 = .ok (.getfield 21, 3) := by decide +kernel
theorem dX3_ringSize_4 : decode cX3_ringSize 4 = .ok (.invokestatic 63, 3) := by decide +kernel
theorem dX3_ringSize_7 : decode cX3_ringSize 7 = .ok (.ireturn, 1) := by decide +kernel
theorem dX3_areStanding_0 : decode cX3_areStanding 0 = .ok (.iload_n 1, 1) := by decide +kernel
theorem dX3_areStanding_1 : decode cX3_areStanding 1 = .ok (.aload_n 0, 1) := by decide +kernel
theorem dX3_areStanding_2 : decode cX3_areStanding 2 = .ok (.getfield 21, 3) := by decide +kernel
theorem dX3_areStanding_5 : decode cX3_areStanding 5 = .ok (.iconst (-1), 1) := by decide +kernel
theorem dX3_areStanding_6 : decode cX3_areStanding 6 = .ok (.ixor, 1) := by decide +kernel
theorem dX3_areStanding_7 : decode cX3_areStanding 7 = .ok (.iand, 1) := by decide +kernel
theorem dX3_areStanding_8 : decode cX3_areStanding 8 = .ok (.ifCond .ne 7, 3) := by decide +kernel
theorem dX3_areStanding_11 : decode cX3_areStanding 11 = .ok (.iconst 1, 1) := by decide +kernel
theorem dX3_areStanding_12 : decode cX3_areStanding 12 = .ok (.goto 4, 3) := by decide +kernel
theorem dX3_areStanding_15 : decode cX3_areStanding 15 = .ok (.iconst 0, 1) := by decide +kernel
theorem dX3_areStanding_16 : decode cX3_areStanding 16 = .ok (.ireturn, 1) := by decide +kernel
theorem dX3_moodOf_0 : decode cX3_moodOf 0 = .ok (.iload_n 1, 1) := by decide +kernel
theorem dX3_moodOf_1 : decode cX3_moodOf 1 = .ok (.ifCond .lt 18, 3) := by decide +kernel
theorem dX3_moodOf_4 : decode cX3_moodOf 4 = .ok (.iload_n 1, 1) := by decide +kernel
theorem dX3_moodOf_5 : decode cX3_moodOf 5 = .ok (.bipush 6, 2) := by decide +kernel
theorem dX3_moodOf_7 : decode cX3_moodOf 7 = .ok (.if_icmp .ge 12, 3) := by decide +kernel
theorem dX3_moodOf_10 : decode cX3_moodOf 10 = .ok (.aload_n 0, 1) := by decide +kernel
theorem dX3_moodOf_11 : decode cX3_moodOf 11 = .ok (.getfield 27, 3) := by decide +kernel
theorem dX3_moodOf_14 : decode cX3_moodOf 14 = .ok (.iload_n 1, 1) := by decide +kernel
theorem dX3_moodOf_15 : decode cX3_moodOf 15 = .ok (.iaload, 1) := by decide +kernel
theorem dX3_moodOf_16 : decode cX3_moodOf 16 = .ok (.goto 4, 3) := by decide +kernel
theorem dX3_moodOf_19 : decode cX3_moodOf 19 = .ok (.iconst 0, 1) := by decide +kernel
theorem dX3_moodOf_20 : decode cX3_moodOf 20 = .ok (.ireturn, 1) := by decide +kernel
theorem dX3_patienceOf_0 : decode cX3_patienceOf 0 = .ok (.iload_n 1, 1) := by decide +kernel
theorem dX3_patienceOf_1 : decode cX3_patienceOf 1 = .ok (.ifCond .lt 18, 3) := by decide +kernel
theorem dX3_patienceOf_4 : decode cX3_patienceOf 4 = .ok (.iload_n 1, 1) := by decide +kernel
theorem dX3_patienceOf_5 : decode cX3_patienceOf 5 = .ok (.bipush 6, 2) := by decide +kernel
theorem dX3_patienceOf_7 : decode cX3_patienceOf 7 = .ok (.if_icmp .ge 12, 3) := by decide +kernel
theorem dX3_patienceOf_10 : decode cX3_patienceOf 10 = .ok (.aload_n 0, 1) := by decide +kernel
theorem dX3_patienceOf_11 : decode cX3_patienceOf 11 = .ok (.getfield 31, 3) := by decide +kernel
theorem dX3_patienceOf_14 : decode cX3_patienceOf 14 = .ok (.iload_n 1, 1) := by decide +kernel
theorem dX3_patienceOf_15 : decode cX3_patienceOf 15 = .ok (.iaload, 1) := by decide +kernel
theorem dX3_patienceOf_16 : decode cX3_patienceOf 16 = .ok (.goto 4, 3) := by decide +kernel
theorem dX3_patienceOf_19 : decode cX3_patienceOf 19 = .ok (.iconst 0, 1) := by decide +kernel
theorem dX3_patienceOf_20 : decode cX3_patienceOf 20 = .ok (.ireturn, 1) := by decide +kernel
theorem dX3_timesPlayed_0 : decode cX3_timesPlayed 0 = .ok (.iload_n 1, 1) := by decide +kernel
theorem dX3_timesPlayed_1 : decode cX3_timesPlayed 1 = .ok (.ifCond .lt 17, 3) := by decide +kernel
theorem dX3_timesPlayed_4 : decode cX3_timesPlayed 4 = .ok (.iload_n 1, 1) := by decide +kernel
theorem dX3_timesPlayed_5 : decode cX3_timesPlayed 5 = .ok (.iconst 4, 1) := by decide +kernel
theorem dX3_timesPlayed_6 : decode cX3_timesPlayed 6 = .ok (.if_icmp .ge 12, 3) := by decide +kernel
theorem dX3_timesPlayed_9 : decode cX3_timesPlayed 9 = .ok (.aload_n 0, 1) := by decide +kernel
theorem dX3_timesPlayed_10 : decode cX3_timesPlayed 10 = .ok (.getfield 34, 3) := by decide +kernel
theorem dX3_timesPlayed_13 : decode cX3_timesPlayed 13 = .ok (.iload_n 1, 1) := by decide +kernel
theorem dX3_timesPlayed_14 : decode cX3_timesPlayed 14 = .ok (.iaload, 1) := by decide +kernel
theorem dX3_timesPlayed_15 : decode cX3_timesPlayed 15 = .ok (.goto 4, 3) := by decide +kernel
theorem dX3_timesPlayed_18 : decode cX3_timesPlayed 18 = .ok (.iconst 0, 1) := by decide +kernel
theorem dX3_timesPlayed_19 : decode cX3_timesPlayed 19 = .ok (.ireturn, 1) := by decide +kernel
set_option maxRecDepth 20000 in
theorem ggX3_giftOf_X3_moodOf : GoodIn wsX3_giftOf wsX3_moodOf := goodIn_r _ [10, 11, 12, 13, 14, 15, 16, 17, 18, 19, 20] (by decide +kernel) (by decide +kernel)
set_option maxRecDepth 20000 in
theorem gX3_giftOf_X3_moodOf : GoodIn wsX3_giftOf (wsV RX3 69 RX3 yX3_moodOf wsX3_moodOf) := goodIn_app (goodIn_of _ (by decide +kernel)) ggX3_giftOf_X3_moodOf
theorem dX3_giftOf_0 : decode cX3_giftOf 0 = .ok (.aload_n 0, 1) := by decide +kernel
theorem dX3_giftOf_1 : decode cX3_giftOf 1 = .ok (.iload_n 1, 1) := by decide +kernel
theorem dX3_giftOf_2 : decode cX3_giftOf 2 = .ok (.invokevirtual 69, 3) := by decide +kernel
theorem dX3_giftOf_5 : decode cX3_giftOf 5 = .ok (.iconst 2, 1) := by decide +kernel
theorem dX3_giftOf_6 : decode cX3_giftOf 6 = .ok (.idiv, 1) := by decide +kernel
theorem dX3_giftOf_7 : decode cX3_giftOf 7 = .ok (.aload_n 0, 1) := by decide +kernel
theorem dX3_giftOf_8 : decode cX3_giftOf 8 = .ok (.getfield 18, 3) := by decide +kernel
theorem dX3_giftOf_11 : decode cX3_giftOf 11 = .ok (.iconst 1, 1) := by decide +kernel
theorem dX3_giftOf_12 : decode cX3_giftOf 12 = .ok (.iadd, 1) := by decide +kernel
theorem dX3_giftOf_13 : decode cX3_giftOf 13 = .ok (.invokestatic 72, 3) := by decide +kernel
theorem dX3_giftOf_16 : decode cX3_giftOf 16 = .ok (.ireturn, 1) := by decide +kernel
set_option maxRecDepth 20000 in
theorem ggX3_giftsOf_X5_has : GoodIn wsX3_giftsOf wsX5_has := goodIn_r _ [3] (by decide +kernel) (by decide +kernel)
set_option maxRecDepth 20000 in
theorem gX3_giftsOf_X5_has_n77 : GoodIn wsX3_giftsOf (wsX5_has) := ggX3_giftsOf_X5_has
set_option maxRecDepth 20000 in
theorem ggX3_giftsOf_X3_giftOf : GoodIn wsX3_giftsOf wsX3_giftOf := goodIn_r _ [8, 9, 10, 11, 12, 13, 14, 15, 16, 7, 17, 18, 19, 20, 21, 22, 23, 24, 25, 26, 27] (by decide +kernel) (by decide +kernel)
set_option maxRecDepth 20000 in
theorem gX3_giftsOf_X3_giftOf : GoodIn wsX3_giftsOf (wsV RX3 81 RX3 yX3_giftOf wsX3_giftOf) := goodIn_app (goodIn_of _ (by decide +kernel)) ggX3_giftsOf_X3_giftOf
theorem dX3_giftsOf_0 : decode cX3_giftsOf 0 = .ok (.iconst 0, 1) := by decide +kernel
theorem dX3_giftsOf_1 : decode cX3_giftsOf 1 = .ok (.istore_n 2, 1) := by decide +kernel
theorem dX3_giftsOf_2 : decode cX3_giftsOf 2 = .ok (.iconst 0, 1) := by decide +kernel
theorem dX3_giftsOf_3 : decode cX3_giftsOf 3 = .ok (.istore_n 3, 1) := by decide +kernel
theorem dX3_giftsOf_4 : decode cX3_giftsOf 4 = .ok (.iload_n 3, 1) := by decide +kernel
theorem dX3_giftsOf_5 : decode cX3_giftsOf 5 = .ok (.bipush 6, 2) := by decide +kernel
theorem dX3_giftsOf_7 : decode cX3_giftsOf 7 = .ok (.if_icmp .ge 29, 3) := by decide +kernel
theorem dX3_giftsOf_10 : decode cX3_giftsOf 10 = .ok (.iload_n 2, 1) := by decide +kernel
theorem dX3_giftsOf_11 : decode cX3_giftsOf 11 = .ok (.iload_n 1, 1) := by decide +kernel
theorem dX3_giftsOf_12 : decode cX3_giftsOf 12 = .ok (.iload_n 3, 1) := by decide +kernel
theorem dX3_giftsOf_13 : decode cX3_giftsOf 13 = .ok (.invokestatic 77, 3) := by decide +kernel
theorem dX3_giftsOf_16 : decode cX3_giftsOf 16 = .ok (.ifCond .eq 11, 3) := by decide +kernel
theorem dX3_giftsOf_19 : decode cX3_giftsOf 19 = .ok (.aload_n 0, 1) := by decide +kernel
theorem dX3_giftsOf_20 : decode cX3_giftsOf 20 = .ok (.iload_n 3, 1) := by decide +kernel
theorem dX3_giftsOf_21 : decode cX3_giftsOf 21 = .ok (.invokevirtual 81, 3) := by decide +kernel
theorem dX3_giftsOf_24 : decode cX3_giftsOf 24 = .ok (.goto 4, 3) := by decide +kernel
theorem dX3_giftsOf_27 : decode cX3_giftsOf 27 = .ok (.iconst 0, 1) := by decide +kernel
theorem dX3_giftsOf_28 : decode cX3_giftsOf 28 = .ok (.iadd, 1) := by decide +kernel
theorem dX3_giftsOf_29 : decode cX3_giftsOf 29 = .ok (.istore_n 2, 1) := by decide +kernel
theorem dX3_giftsOf_30 : decode cX3_giftsOf 30 = .ok (.iinc 3 1, 3) := by decide +kernel
theorem dX3_giftsOf_33 : decode cX3_giftsOf 33 = .ok (.goto (-29), 3) := by decide +kernel
theorem dX3_giftsOf_36 : decode cX3_giftsOf 36 = .ok (.iload_n 2, 1) := by decide +kernel
theorem dX3_giftsOf_37 : decode cX3_giftsOf 37 = .ok (.ireturn, 1) := by decide +kernel
set_option maxRecDepth 20000 in
theorem ggX3_hear_X2_hasTune : GoodIn wsX3_hear wsX2_hasTune := goodIn_r _ [18, 19, 20, 21, 22, 64, 65, 66, 67] (by decide +kernel) (by decide +kernel)
set_option maxRecDepth 20000 in
theorem gX3_hear_X2_hasTune : GoodIn wsX3_hear (wsV RX3 84 RX2 yX2_hasTune wsX2_hasTune) := goodIn_app (goodIn_of _ (by decide +kernel)) ggX3_hear_X2_hasTune
set_option maxRecDepth 20000 in
theorem ggX3_hear_X2_ofTune : GoodIn wsX3_hear wsX2_ofTune := goodIn_r _ [26, 27, 28, 29, 17, 30, 64, 65, 66, 67] (by decide +kernel) (by decide +kernel)
set_option maxRecDepth 20000 in
theorem gX3_hear_X2_ofTune : GoodIn wsX3_hear (wsV RX3 87 RX2 yX2_ofTune wsX2_ofTune) := goodIn_app (goodIn_of _ (by decide +kernel)) ggX3_hear_X2_ofTune
set_option maxRecDepth 20000 in
theorem ggX3_hear_X5_has : GoodIn wsX3_hear wsX5_has := goodIn_r _ [32] (by decide +kernel) (by decide +kernel)
set_option maxRecDepth 20000 in
theorem gX3_hear_X5_has_n77 : GoodIn wsX3_hear (wsX5_has) := ggX3_hear_X5_has
set_option maxRecDepth 20000 in
theorem ggX3_hear_X2_ofPerson : GoodIn wsX3_hear wsX2_ofPerson := goodIn_r _ [36, 37, 28, 29, 17, 30, 64, 65, 66, 67] (by decide +kernel) (by decide +kernel)
set_option maxRecDepth 20000 in
theorem gX3_hear_X2_ofPerson : GoodIn wsX3_hear (wsV RX3 53 RX2 yX2_ofPerson wsX2_ofPerson) := goodIn_app (goodIn_of _ (by decide +kernel)) ggX3_hear_X2_ofPerson
set_option maxRecDepth 20000 in
theorem ggX3_hear_X3_letCome : GoodIn wsX3_hear wsX3_letCome := goodIn_r _ [42, 43, 1, 7, 31, 21, 32, 44, 45, 46, 41, 47, 48, 49, 50, 51, 52, 53, 54, 33, 34, 35, 17, 36, 37, 28, 29, 30, 55, 56, 57, 58, 59, 60, 61, 62, 63, 64, 65, 66, 67] (by decide +kernel) (by decide +kernel)
set_option maxRecDepth 20000 in
theorem gX3_hear_X3_letCome : GoodIn wsX3_hear (wsV RX3 93 RX3 yX3_letCome wsX3_letCome) := goodIn_app (goodIn_of _ (by decide +kernel)) ggX3_hear_X3_letCome
theorem dX3_hear_0 : decode cX3_hear 0 = .ok (.aload_n 0, 1) := by decide +kernel
theorem dX3_hear_1 : decode cX3_hear 1 = .ok (.getfield 37, 3) := by decide +kernel
theorem dX3_hear_4 : decode cX3_hear 4 = .ok (.iload_n 1, 1) := by decide +kernel
theorem dX3_hear_5 : decode cX3_hear 5 = .ok (.invokevirtual 84, 3) := by decide +kernel
theorem dX3_hear_8 : decode cX3_hear 8 = .ok (.ifCond .eq 8, 3) := by decide +kernel
theorem dX3_hear_11 : decode cX3_hear 11 = .ok (.iload_n 1, 1) := by decide +kernel
theorem dX3_hear_12 : decode cX3_hear 12 = .ok (.iconst 4, 1) := by decide +kernel
theorem dX3_hear_13 : decode cX3_hear 13 = .ok (.if_icmp .lt 4, 3) := by decide +kernel
theorem dX3_hear_16 : decode cX3_hear 16 = .ok (.return_, 1) := by decide +kernel
theorem dX3_hear_17 : decode cX3_hear 17 = .ok (.aload_n 0, 1) := by decide +kernel
theorem dX3_hear_18 : decode cX3_hear 18 = .ok (.getfield 37, 3) := by decide +kernel
theorem dX3_hear_21 : decode cX3_hear 21 = .ok (.iload_n 1, 1) := by decide +kernel
theorem dX3_hear_22 : decode cX3_hear 22 = .ok (.iconst 1, 1) := by decide +kernel
theorem dX3_hear_23 : decode cX3_hear 23 = .ok (.invokevirtual 87, 3) := by decide +kernel
theorem dX3_hear_26 : decode cX3_hear 26 = .ok (.istore_n 2, 1) := by decide +kernel
theorem dX3_hear_27 : decode cX3_hear 27 = .ok (.iconst 0, 1) := by decide +kernel
theorem dX3_hear_28 : decode cX3_hear 28 = .ok (.aload_n 0, 1) := by decide +kernel
theorem dX3_hear_29 : decode cX3_hear 29 = .ok (.getfield 37, 3) := by decide +kernel
theorem dX3_hear_32 : decode cX3_hear 32 = .ok (.iload_n 1, 1) := by decide +kernel
theorem dX3_hear_33 : decode cX3_hear 33 = .ok (.iconst 2, 1) := by decide +kernel
theorem dX3_hear_34 : decode cX3_hear 34 = .ok (.invokevirtual 87, 3) := by decide +kernel
theorem dX3_hear_37 : decode cX3_hear 37 = .ok (.aload_n 0, 1) := by decide +kernel
theorem dX3_hear_38 : decode cX3_hear 38 = .ok (.getfield 34, 3) := by decide +kernel
theorem dX3_hear_41 : decode cX3_hear 41 = .ok (.iload_n 1, 1) := by decide +kernel
theorem dX3_hear_42 : decode cX3_hear 42 = .ok (.iaload, 1) := by decide +kernel
theorem dX3_hear_43 : decode cX3_hear 43 = .ok (.isub, 1) := by decide +kernel
theorem dX3_hear_44 : decode cX3_hear 44 = .ok (.invokestatic 90, 3) := by decide +kernel
theorem dX3_hear_47 : decode cX3_hear 47 = .ok (.istore_n 3, 1) := by decide +kernel
theorem dX3_hear_48 : decode cX3_hear 48 = .ok (.iconst 0, 1) := by decide +kernel
theorem dX3_hear_49 : decode cX3_hear 49 = .ok (.istore 4, 2) := by decide +kernel
theorem dX3_hear_51 : decode cX3_hear 51 = .ok (.iload 4, 2) := by decide +kernel
theorem dX3_hear_53 : decode cX3_hear 53 = .ok (.bipush 6, 2) := by decide +kernel
theorem dX3_hear_55 : decode cX3_hear 55 = .ok (.if_icmp .ge 124, 3) := by decide +kernel
theorem dX3_hear_58 : decode cX3_hear 58 = .ok (.aload_n 0, 1) := by decide +kernel
theorem dX3_hear_59 : decode cX3_hear 59 = .ok (.getfield 21, 3) := by decide +kernel
theorem dX3_hear_62 : decode cX3_hear 62 = .ok (.iload 4, 2) := by decide +kernel
theorem dX3_hear_64 : decode cX3_hear 64 = .ok (.invokestatic 77, 3) := by decide +kernel
theorem dX3_hear_67 : decode cX3_hear 67 = .ok (.ifCond .ne 6, 3) := by decide +kernel
theorem dX3_hear_70 : decode cX3_hear 70 = .ok (.goto 103, 3) := by decide +kernel
theorem dX3_hear_73 : decode cX3_hear 73 = .ok (.aload_n 0, 1) := by decide +kernel
theorem dX3_hear_74 : decode cX3_hear 74 = .ok (.getfield 31, 3) := by decide +kernel
theorem dX3_hear_77 : decode cX3_hear 77 = .ok (.iload 4, 2) := by decide +kernel
theorem dX3_hear_79 : decode cX3_hear 79 = .ok (.dup2, 1) := by decide +kernel
theorem dX3_hear_80 : decode cX3_hear 80 = .ok (.iaload, 1) := by decide +kernel
theorem dX3_hear_81 : decode cX3_hear 81 = .ok (.iload_n 2, 1) := by decide +kernel
theorem dX3_hear_82 : decode cX3_hear 82 = .ok (.isub, 1) := by decide +kernel
theorem dX3_hear_83 : decode cX3_hear 83 = .ok (.iastore, 1) := by decide +kernel
theorem dX3_hear_84 : decode cX3_hear 84 = .ok (.aload_n 0, 1) := by decide +kernel
theorem dX3_hear_85 : decode cX3_hear 85 = .ok (.getfield 31, 3) := by decide +kernel
theorem dX3_hear_88 : decode cX3_hear 88 = .ok (.iload 4, 2) := by decide +kernel
theorem dX3_hear_90 : decode cX3_hear 90 = .ok (.iaload, 1) := by decide +kernel
theorem dX3_hear_91 : decode cX3_hear 91 = .ok (.ifCond .ge 21, 3) := by decide +kernel
theorem dX3_hear_94 : decode cX3_hear 94 = .ok (.aload_n 0, 1) := by decide +kernel
theorem dX3_hear_95 : decode cX3_hear 95 = .ok (.dup, 1) := by decide +kernel
theorem dX3_hear_96 : decode cX3_hear 96 = .ok (.getfield 21, 3) := by decide +kernel
theorem dX3_hear_99 : decode cX3_hear 99 = .ok (.iconst 1, 1) := by decide +kernel
theorem dX3_hear_100 : decode cX3_hear 100 = .ok (.iload 4, 2) := by decide +kernel
theorem dX3_hear_102 : decode cX3_hear 102 = .ok (.ishl, 1) := by decide +kernel
theorem dX3_hear_103 : decode cX3_hear 103 = .ok (.iconst (-1), 1) := by decide +kernel
theorem dX3_hear_104 : decode cX3_hear 104 = .ok (.ixor, 1) := by decide +kernel
theorem dX3_hear_105 : decode cX3_hear 105 = .ok (.iand, 1) := by decide +kernel
theorem dX3_hear_106 : decode cX3_hear 106 = .ok (.putfield 21, 3) := by decide +kernel
theorem dX3_hear_109 : decode cX3_hear 109 = .ok (.goto 64, 3) := by decide +kernel
theorem dX3_hear_112 : decode cX3_hear 112 = .ok (.aload_n 0, 1) := by decide +kernel
theorem dX3_hear_113 : decode cX3_hear 113 = .ok (.getfield 37, 3) := by decide +kernel
theorem dX3_hear_116 : decode cX3_hear 116 = .ok (.iload_n 1, 1) := by decide +kernel
theorem dX3_hear_117 : decode cX3_hear 117 = .ok (.iconst 0, 1) := by decide +kernel
theorem dX3_hear_118 : decode cX3_hear 118 = .ok (.invokevirtual 87, 3) := by decide +kernel
theorem dX3_hear_121 : decode cX3_hear 121 = .ok (.aload_n 0, 1) := by decide +kernel
theorem dX3_hear_122 : decode cX3_hear 122 = .ok (.getfield 37, 3) := by decide +kernel
theorem dX3_hear_125 : decode cX3_hear 125 = .ok (.iload 4, 2) := by decide +kernel
theorem dX3_hear_127 : decode cX3_hear 127 = .ok (.iconst 4, 1) := by decide +kernel
theorem dX3_hear_128 : decode cX3_hear 128 = .ok (.invokevirtual 53, 3) := by decide +kernel
theorem dX3_hear_131 : decode cX3_hear 131 = .ok (.if_icmp .ne 7, 3) := by decide +kernel
theorem dX3_hear_134 : decode cX3_hear 134 = .ok (.iconst 1, 1) := by decide +kernel
theorem dX3_hear_135 : decode cX3_hear 135 = .ok (.goto 4, 3) := by decide +kernel
theorem dX3_hear_138 : decode cX3_hear 138 = .ok (.iconst 0, 1) := by decide +kernel
theorem dX3_hear_139 : decode cX3_hear 139 = .ok (.istore 5, 2) := by decide +kernel
theorem dX3_hear_141 : decode cX3_hear 141 = .ok (.aload_n 0, 1) := by decide +kernel
theorem dX3_hear_142 : decode cX3_hear 142 = .ok (.getfield 27, 3) := by decide +kernel
theorem dX3_hear_145 : decode cX3_hear 145 = .ok (.iload 4, 2) := by decide +kernel
theorem dX3_hear_147 : decode cX3_hear 147 = .ok (.bipush 20, 2) := by decide +kernel
theorem dX3_hear_149 : decode cX3_hear 149 = .ok (.aload_n 0, 1) := by decide +kernel
theorem dX3_hear_150 : decode cX3_hear 150 = .ok (.getfield 27, 3) := by decide +kernel
theorem dX3_hear_153 : decode cX3_hear 153 = .ok (.iload 4, 2) := by decide +kernel
theorem dX3_hear_155 : decode cX3_hear 155 = .ok (.iaload, 1) := by decide +kernel
theorem dX3_hear_156 : decode cX3_hear 156 = .ok (.iload_n 3, 1) := by decide +kernel
theorem dX3_hear_157 : decode cX3_hear 157 = .ok (.iadd, 1) := by decide +kernel
theorem dX3_hear_158 : decode cX3_hear 158 = .ok (.iload 5, 2) := by decide +kernel
theorem dX3_hear_160 : decode cX3_hear 160 = .ok (.ifCond .eq 7, 3) := by decide +kernel
theorem dX3_hear_163 : decode cX3_hear 163 = .ok (.iconst 2, 1) := by decide +kernel
theorem dX3_hear_164 : decode cX3_hear 164 = .ok (.goto 4, 3) := by decide +kernel
theorem dX3_hear_167 : decode cX3_hear 167 = .ok (.iconst 0, 1) := by decide +kernel
theorem dX3_hear_168 : decode cX3_hear 168 = .ok (.iadd, 1) := by decide +kernel
theorem dX3_hear_169 : decode cX3_hear 169 = .ok (.invokestatic 72, 3) := by decide +kernel
theorem dX3_hear_172 : decode cX3_hear 172 = .ok (.iastore, 1) := by decide +kernel
theorem dX3_hear_173 : decode cX3_hear 173 = .ok (.iinc 4 1, 3) := by decide +kernel
theorem dX3_hear_176 : decode cX3_hear 176 = .ok (.goto (-125), 3) := by decide +kernel
theorem dX3_hear_179 : decode cX3_hear 179 = .ok (.aload_n 0, 1) := by decide +kernel
theorem dX3_hear_180 : decode cX3_hear 180 = .ok (.getfield 34, 3) := by decide +kernel
theorem dX3_hear_183 : decode cX3_hear 183 = .ok (.iload_n 1, 1) := by decide +kernel
theorem dX3_hear_184 : decode cX3_hear 184 = .ok (.dup2, 1) := by decide +kernel
theorem dX3_hear_185 : decode cX3_hear 185 = .ok (.iaload, 1) := by decide +kernel
theorem dX3_hear_186 : decode cX3_hear 186 = .ok (.iconst 1, 1) := by decide +kernel
theorem dX3_hear_187 : decode cX3_hear 187 = .ok (.iadd, 1) := by decide +kernel
theorem dX3_hear_188 : decode cX3_hear 188 = .ok (.iastore, 1) := by decide +kernel
theorem dX3_hear_189 : decode cX3_hear 189 = .ok (.aload_n 0, 1) := by decide +kernel
theorem dX3_hear_190 : decode cX3_hear 190 = .ok (.dup, 1) := by decide +kernel
theorem dX3_hear_191 : decode cX3_hear 191 = .ok (.getfield 9, 3) := by decide +kernel
theorem dX3_hear_194 : decode cX3_hear 194 = .ok (.iload_n 2, 1) := by decide +kernel
theorem dX3_hear_195 : decode cX3_hear 195 = .ok (.iadd, 1) := by decide +kernel
theorem dX3_hear_196 : decode cX3_hear 196 = .ok (.putfield 9, 3) := by decide +kernel
theorem dX3_hear_199 : decode cX3_hear 199 = .ok (.aload_n 0, 1) := by decide +kernel
theorem dX3_hear_200 : decode cX3_hear 200 = .ok (.invokevirtual 93, 3) := by decide +kernel
theorem dX3_hear_203 : decode cX3_hear 203 = .ok (.return_, 1) := by decide +kernel
set_option maxRecDepth 20000 in
theorem ggX3_letCome_X5_has : GoodIn wsX3_letCome wsX5_has := goodIn_r _ [6] (by decide +kernel) (by decide +kernel)
set_option maxRecDepth 20000 in
theorem gX3_letCome_X5_has_n77 : GoodIn wsX3_letCome (wsX5_has) := ggX3_letCome_X5_has
set_option maxRecDepth 20000 in
theorem ggX3_letCome_X3_ringSize : GoodIn wsX3_letCome wsX3_ringSize := goodIn_r _ [11, 3, 12, 13, 14, 15, 16, 17, 18, 28, 29, 30, 31, 32, 33, 34, 35, 36] (by decide +kernel) (by decide +kernel)
set_option maxRecDepth 20000 in
theorem gX3_letCome_X3_ringSize : GoodIn wsX3_letCome (wsV RX3 96 RX3 yX3_ringSize wsX3_ringSize) := goodIn_app (goodIn_of _ (by decide +kernel)) ggX3_letCome_X3_ringSize
set_option maxRecDepth 20000 in
theorem ggX3_letCome_X2_ofPerson : GoodIn wsX3_letCome wsX2_ofPerson := goodIn_r _ [23, 24, 25, 26, 22, 27, 37, 38, 39, 40] (by decide +kernel) (by decide +kernel)
set_option maxRecDepth 20000 in
theorem gX3_letCome_X2_ofPerson : GoodIn wsX3_letCome (wsV RX3 53 RX2 yX2_ofPerson wsX2_ofPerson) := goodIn_app (goodIn_of _ (by decide +kernel)) ggX3_letCome_X2_ofPerson
theorem dX3_letCome_0 : decode cX3_letCome 0 = .ok (.iconst 0, 1) := by decide +kernel
theorem dX3_letCome_1 : decode cX3_letCome 1 = .ok (.istore_n 1, 1) := by decide +kernel
theorem dX3_letCome_2 : decode cX3_letCome 2 = .ok (.iload_n 1, 1) := by decide +kernel
theorem dX3_letCome_3 : decode cX3_letCome 3 = .ok (.bipush 6, 2) := by decide +kernel
theorem dX3_letCome_5 : decode cX3_letCome 5 = .ok (.if_icmp .ge 62, 3) := by decide +kernel
theorem dX3_letCome_8 : decode cX3_letCome 8 = .ok (.aload_n 0, 1) := by decide +kernel
theorem dX3_letCome_9 : decode cX3_letCome 9 = .ok (.getfield 24, 3) := by decide +kernel
theorem dX3_letCome_12 : decode cX3_letCome 12 = .ok (.iload_n 1, 1) := by decide +kernel
theorem dX3_letCome_13 : decode cX3_letCome 13 = .ok (.invokestatic 77, 3) := by decide +kernel
theorem dX3_letCome_16 : decode cX3_letCome 16 = .ok (.ifCond .eq 45, 3) := by decide +kernel
theorem dX3_letCome_19 : decode cX3_letCome 19 = .ok (.aload_n 0, 1) := by decide +kernel
theorem dX3_letCome_20 : decode cX3_letCome 20 = .ok (.invokevirtual 96, 3) := by decide +kernel
theorem dX3_letCome_23 : decode cX3_letCome 23 = .ok (.aload_n 0, 1) := by decide +kernel
theorem dX3_letCome_24 : decode cX3_letCome 24 = .ok (.getfield 37, 3) := by decide +kernel
theorem dX3_letCome_27 : decode cX3_letCome 27 = .ok (.iload_n 1, 1) := by decide +kernel
theorem dX3_letCome_28 : decode cX3_letCome 28 = .ok (.iconst 5, 1) := by decide +kernel
theorem dX3_letCome_29 : decode cX3_letCome 29 = .ok (.invokevirtual 53, 3) := by decide +kernel
theorem dX3_letCome_32 : decode cX3_letCome 32 = .ok (.if_icmp .lt 29, 3) := by decide +kernel
theorem dX3_letCome_35 : decode cX3_letCome 35 = .ok (.aload_n 0, 1) := by decide +kernel
theorem dX3_letCome_36 : decode cX3_letCome 36 = .ok (.dup, 1) := by decide +kernel
theorem dX3_letCome_37 : decode cX3_letCome 37 = .ok (.getfield 24, 3) := by decide +kernel
theorem dX3_letCome_40 : decode cX3_letCome 40 = .ok (.iconst 1, 1) := by decide +kernel
theorem dX3_letCome_41 : decode cX3_letCome 41 = .ok (.iload_n 1, 1) := by decide +kernel
theorem dX3_letCome_42 : decode cX3_letCome 42 = .ok (.ishl, 1) := by decide +kernel
theorem dX3_letCome_43 : decode cX3_letCome 43 = .ok (.iconst (-1), 1) := by decide +kernel
theorem dX3_letCome_44 : decode cX3_letCome 44 = .ok (.ixor, 1) := by decide +kernel
theorem dX3_letCome_45 : decode cX3_letCome 45 = .ok (.iand, 1) := by decide +kernel
theorem dX3_letCome_46 : decode cX3_letCome 46 = .ok (.putfield 24, 3) := by decide +kernel
theorem dX3_letCome_49 : decode cX3_letCome 49 = .ok (.aload_n 0, 1) := by decide +kernel
theorem dX3_letCome_50 : decode cX3_letCome 50 = .ok (.dup, 1) := by decide +kernel
theorem dX3_letCome_51 : decode cX3_letCome 51 = .ok (.getfield 21, 3) := by decide +kernel
theorem dX3_letCome_54 : decode cX3_letCome 54 = .ok (.iconst 1, 1) := by decide +kernel
theorem dX3_letCome_55 : decode cX3_letCome 55 = .ok (.iload_n 1, 1) := by decide +kernel
theorem dX3_letCome_56 : decode cX3_letCome 56 = .ok (.ishl, 1) := by decide +kernel
theorem dX3_letCome_57 : decode cX3_letCome 57 = .ok (.ior, 1) := by decide +kernel
theorem dX3_letCome_58 : decode cX3_letCome 58 = .ok (.putfield 21, 3) := by decide +kernel
theorem dX3_letCome_61 : decode cX3_letCome 61 = .ok (.iinc 1 1, 3) := by decide +kernel
theorem dX3_letCome_64 : decode cX3_letCome 64 = .ok (.goto (-62), 3) := by decide +kernel
theorem dX3_letCome_67 : decode cX3_letCome 67 = .ok (.return_, 1) := by decide +kernel
set_option maxRecDepth 20000 in
theorem ggX3_passHat_X3_collectFrom : GoodIn wsX3_passHat wsX3_collectFrom := goodIn_r _ [7, 8, 9, 1, 10, 11, 12, 13, 14, 15, 16, 17, 18, 19, 20, 21, 22, 23, 24, 25, 26, 27, 28, 29, 30, 6, 31, 32, 33, 34, 35, 36, 37, 38, 46, 47, 48, 49, 50, 51, 52, 53, 54, 55, 56, 57, 58] (by decide +kernel) (by decide +kernel)
set_option maxRecDepth 20000 in
theorem gX3_passHat_X3_collectFrom : GoodIn wsX3_passHat (wsV RX3 100 RX3 yX3_collectFrom wsX3_collectFrom) := goodIn_app (goodIn_of _ (by decide +kernel)) ggX3_passHat_X3_collectFrom
set_option maxRecDepth 20000 in
theorem ggX3_passHat_X3_slipOff : GoodIn wsX3_passHat wsX3_slipOff := goodIn_r _ [42, 9, 8, 43, 44, 13, 45, 19, 20, 21, 22, 23, 24, 25, 26, 27, 16, 17, 18, 46, 47, 48, 49, 50, 51, 52, 53, 54, 55, 56, 57, 58] (by decide +kernel) (by decide +kernel)
set_option maxRecDepth 20000 in
theorem gX3_passHat_X3_slipOff : GoodIn wsX3_passHat (wsV RX3 104 RX3 yX3_slipOff wsX3_slipOff) := goodIn_app (goodIn_of _ (by decide +kernel)) ggX3_passHat_X3_slipOff
theorem dX3_passHat_0 : decode cX3_passHat 0 = .ok (.aload_n 0, 1) := by decide +kernel
theorem dX3_passHat_1 : decode cX3_passHat 1 = .ok (.getfield 15, 3) := by decide +kernel
theorem dX3_passHat_4 : decode cX3_passHat 4 = .ok (.istore_n 2, 1) := by decide +kernel
theorem dX3_passHat_5 : decode cX3_passHat 5 = .ok (.iconst 0, 1) := by decide +kernel
theorem dX3_passHat_6 : decode cX3_passHat 6 = .ok (.istore_n 3, 1) := by decide +kernel
theorem dX3_passHat_7 : decode cX3_passHat 7 = .ok (.iconst 0, 1) := by decide +kernel
theorem dX3_passHat_8 : decode cX3_passHat 8 = .ok (.istore 4, 2) := by decide +kernel
theorem dX3_passHat_10 : decode cX3_passHat 10 = .ok (.iload 4, 2) := by decide +kernel
theorem dX3_passHat_12 : decode cX3_passHat 12 = .ok (.iconst 4, 1) := by decide +kernel
theorem dX3_passHat_13 : decode cX3_passHat 13 = .ok (.if_icmp .ge 44, 3) := by decide +kernel
theorem dX3_passHat_16 : decode cX3_passHat 16 = .ok (.iload_n 1, 1) := by decide +kernel
theorem dX3_passHat_17 : decode cX3_passHat 17 = .ok (.ifCond .ne 8, 3) := by decide +kernel
theorem dX3_passHat_20 : decode cX3_passHat 20 = .ok (.iload 4, 2) := by decide +kernel
theorem dX3_passHat_22 : decode cX3_passHat 22 = .ok (.goto 7, 3) := by decide +kernel
theorem dX3_passHat_25 : decode cX3_passHat 25 = .ok (.iconst 3, 1) := by decide +kernel
theorem dX3_passHat_26 : decode cX3_passHat 26 = .ok (.iload 4, 2) := by decide +kernel
theorem dX3_passHat_28 : decode cX3_passHat 28 = .ok (.isub, 1) := by decide +kernel
theorem dX3_passHat_29 : decode cX3_passHat 29 = .ok (.istore 5, 2) := by decide +kernel
theorem dX3_passHat_31 : decode cX3_passHat 31 = .ok (.iload_n 3, 1) := by decide +kernel
theorem dX3_passHat_32 : decode cX3_passHat 32 = .ok (.iconst 1, 1) := by decide +kernel
theorem dX3_passHat_33 : decode cX3_passHat 33 = .ok (.iload 5, 2) := by decide +kernel
theorem dX3_passHat_35 : decode cX3_passHat 35 = .ok (.ishl, 1) := by decide +kernel
theorem dX3_passHat_36 : decode cX3_passHat 36 = .ok (.ior, 1) := by decide +kernel
theorem dX3_passHat_37 : decode cX3_passHat 37 = .ok (.istore_n 3, 1) := by decide +kernel
theorem dX3_passHat_38 : decode cX3_passHat 38 = .ok (.aload_n 0, 1) := by decide +kernel
theorem dX3_passHat_39 : decode cX3_passHat 39 = .ok (.iload 5, 2) := by decide +kernel
theorem dX3_passHat_41 : decode cX3_passHat 41 = .ok (.invokevirtual 100, 3) := by decide +kernel
theorem dX3_passHat_44 : decode cX3_passHat 44 = .ok (.aload_n 0, 1) := by decide +kernel
theorem dX3_passHat_45 : decode cX3_passHat 45 = .ok (.iload 5, 2) := by decide +kernel
theorem dX3_passHat_47 : decode cX3_passHat 47 = .ok (.iload_n 3, 1) := by decide +kernel
theorem dX3_passHat_48 : decode cX3_passHat 48 = .ok (.invokevirtual 104, 3) := by decide +kernel
theorem dX3_passHat_51 : decode cX3_passHat 51 = .ok (.iinc 4 1, 3) := by decide +kernel
theorem dX3_passHat_54 : decode cX3_passHat 54 = .ok (.goto (-44), 3) := by decide +kernel
theorem dX3_passHat_57 : decode cX3_passHat 57 = .ok (.aload_n 0, 1) := by decide +kernel
theorem dX3_passHat_58 : decode cX3_passHat 58 = .ok (.dup, 1) := by decide +kernel
theorem dX3_passHat_59 : decode cX3_passHat 59 = .ok (.getfield 9, 3) := by decide +kernel
theorem dX3_passHat_62 : decode cX3_passHat 62 = .ok (.iconst 1, 1) := by decide +kernel
theorem dX3_passHat_63 : decode cX3_passHat 63 = .ok (.iadd, 1) := by decide +kernel
theorem dX3_passHat_64 : decode cX3_passHat 64 = .ok (.putfield 9, 3) := by decide +kernel
theorem dX3_passHat_67 : decode cX3_passHat 67 = .ok (.aload_n 0, 1) := by decide +kernel
theorem dX3_passHat_68 : decode cX3_passHat 68 = .ok (.getfield 15, 3) := by decide +kernel
theorem dX3_passHat_71 : decode cX3_passHat 71 = .ok (.iload_n 2, 1) := by decide +kernel
theorem dX3_passHat_72 : decode cX3_passHat 72 = .ok (.isub, 1) := by decide +kernel
theorem dX3_passHat_73 : decode cX3_passHat 73 = .ok (.ireturn, 1) := by decide +kernel
set_option maxRecDepth 20000 in
theorem ggX3_collectFrom_X5_has : GoodIn wsX3_collectFrom wsX5_has := goodIn_r _ [12] (by decide +kernel) (by decide +kernel)
set_option maxRecDepth 20000 in
theorem gX3_collectFrom_X5_has_n77 : GoodIn wsX3_collectFrom (wsX5_has) := ggX3_collectFrom_X5_has
set_option maxRecDepth 20000 in
theorem ggX3_collectFrom_X2_ofPerson : GoodIn wsX3_collectFrom wsX2_ofPerson := goodIn_r _ [17, 18, 19, 20, 16, 21, 43, 44, 45, 46] (by decide +kernel) (by decide +kernel)
set_option maxRecDepth 20000 in
theorem gX3_collectFrom_X2_ofPerson : GoodIn wsX3_collectFrom (wsV RX3 53 RX2 yX2_ofPerson wsX2_ofPerson) := goodIn_app (goodIn_of _ (by decide +kernel)) ggX3_collectFrom_X2_ofPerson
set_option maxRecDepth 20000 in
theorem ggX3_collectFrom_X3_giftOf : GoodIn wsX3_collectFrom wsX3_giftOf := goodIn_r _ [26, 4, 27, 28, 7, 29, 30, 31, 32, 25, 33, 9, 34, 35, 36, 37, 38, 39, 40, 41, 42] (by decide +kernel) (by decide +kernel)
set_option maxRecDepth 20000 in
theorem gX3_collectFrom_X3_giftOf : GoodIn wsX3_collectFrom (wsV RX3 81 RX3 yX3_giftOf wsX3_giftOf) := goodIn_app (goodIn_of _ (by decide +kernel)) ggX3_collectFrom_X3_giftOf
theorem dX3_collectFrom_0 : decode cX3_collectFrom 0 = .ok (.iconst 0, 1) := by decide +kernel
theorem dX3_collectFrom_1 : decode cX3_collectFrom 1 = .ok (.istore_n 2, 1) := by decide +kernel
theorem dX3_collectFrom_2 : decode cX3_collectFrom 2 = .ok (.iload_n 2, 1) := by decide +kernel
theorem dX3_collectFrom_3 : decode cX3_collectFrom 3 = .ok (.bipush 6, 2) := by decide +kernel
theorem dX3_collectFrom_5 : decode cX3_collectFrom 5 = .ok (.if_icmp .ge 68, 3) := by decide +kernel
theorem dX3_collectFrom_8 : decode cX3_collectFrom 8 = .ok (.aload_n 0, 1) := by decide +kernel
theorem dX3_collectFrom_9 : decode cX3_collectFrom 9 = .ok (.getfield 21, 3) := by decide +kernel
theorem dX3_collectFrom_12 : decode cX3_collectFrom 12 = .ok (.iload_n 2, 1) := by decide +kernel
theorem dX3_collectFrom_13 : decode cX3_collectFrom 13 = .ok (.invokestatic 77, 3) := by decide +kernel
theorem dX3_collectFrom_16 : decode cX3_collectFrom 16 = .ok (.ifCond .eq 51, 3) := by decide +kernel
theorem dX3_collectFrom_19 : decode cX3_collectFrom 19 = .ok (.aload_n 0, 1) := by decide +kernel
theorem dX3_collectFrom_20 : decode cX3_collectFrom 20 = .ok (.getfield 37, 3) := by decide +kernel
theorem dX3_collectFrom_23 : decode cX3_collectFrom 23 = .ok (.iload_n 2, 1) := by decide +kernel
theorem dX3_collectFrom_24 : decode cX3_collectFrom 24 = .ok (.iconst 0, 1) := by decide +kernel
theorem dX3_collectFrom_25 : decode cX3_collectFrom 25 = .ok (.invokevirtual 53, 3) := by decide +kernel
theorem dX3_collectFrom_28 : decode cX3_collectFrom 28 = .ok (.iload_n 1, 1) := by decide +kernel
theorem dX3_collectFrom_29 : decode cX3_collectFrom 29 = .ok (.if_icmp .ne 38, 3) := by decide +kernel
theorem dX3_collectFrom_32 : decode cX3_collectFrom 32 = .ok (.aload_n 0, 1) := by decide +kernel
theorem dX3_collectFrom_33 : decode cX3_collectFrom 33 = .ok (.iload_n 2, 1) := by decide +kernel
theorem dX3_collectFrom_34 : decode cX3_collectFrom 34 = .ok (.invokevirtual 81, 3) := by decide +kernel
theorem dX3_collectFrom_37 : decode cX3_collectFrom 37 = .ok (.istore_n 3, 1) := by decide +kernel
theorem dX3_collectFrom_38 : decode cX3_collectFrom 38 = .ok (.aload_n 0, 1) := by decide +kernel
theorem dX3_collectFrom_39 : decode cX3_collectFrom 39 = .ok (.dup, 1) := by decide +kernel
theorem dX3_collectFrom_40 : decode cX3_collectFrom 40 = .ok (.getfield 15, 3) := by decide +kernel
theorem dX3_collectFrom_43 : decode cX3_collectFrom 43 = .ok (.iload_n 3, 1) := by decide +kernel
theorem dX3_collectFrom_44 : decode cX3_collectFrom 44 = .ok (.iadd, 1) := by decide +kernel
theorem dX3_collectFrom_45 : decode cX3_collectFrom 45 = .ok (.putfield 15, 3) := by decide +kernel
theorem dX3_collectFrom_48 : decode cX3_collectFrom 48 = .ok (.aload_n 0, 1) := by decide +kernel
theorem dX3_collectFrom_49 : decode cX3_collectFrom 49 = .ok (.aload_n 0, 1) := by decide +kernel
theorem dX3_collectFrom_50 : decode cX3_collectFrom 50 = .ok (.getfield 18, 3) := by decide +kernel
theorem dX3_collectFrom_53 : decode cX3_collectFrom 53 = .ok (.iload_n 3, 1) := by decide +kernel
theorem dX3_collectFrom_54 : decode cX3_collectFrom 54 = .ok (.invokestatic 90, 3) := by decide +kernel
theorem dX3_collectFrom_57 : decode cX3_collectFrom 57 = .ok (.putfield 18, 3) := by decide +kernel
theorem dX3_collectFrom_60 : decode cX3_collectFrom 60 = .ok (.aload_n 0, 1) := by decide +kernel
theorem dX3_collectFrom_61 : decode cX3_collectFrom 61 = .ok (.getfield 27, 3) := by decide +kernel
theorem dX3_collectFrom_64 : decode cX3_collectFrom 64 = .ok (.iload_n 2, 1) := by decide +kernel
theorem dX3_collectFrom_65 : decode cX3_collectFrom 65 = .ok (.iconst 0, 1) := by decide +kernel
theorem dX3_collectFrom_66 : decode cX3_collectFrom 66 = .ok (.iastore, 1) := by decide +kernel
theorem dX3_collectFrom_67 : decode cX3_collectFrom 67 = .ok (.iinc 2 1, 3) := by decide +kernel
theorem dX3_collectFrom_70 : decode cX3_collectFrom 70 = .ok (.goto (-68), 3) := by decide +kernel
theorem dX3_collectFrom_73 : decode cX3_collectFrom 73 = .ok (.return_, 1) := by decide +kernel
set_option maxRecDepth 20000 in
theorem ggX3_slipOff_X2_ofPerson : GoodIn wsX3_slipOff wsX2_ofPerson := goodIn_r _ [11, 12, 13, 14, 10, 15, 28, 29, 30, 31] (by decide +kernel) (by decide +kernel)
set_option maxRecDepth 20000 in
theorem gX3_slipOff_X2_ofPerson : GoodIn wsX3_slipOff (wsV RX3 53 RX2 yX2_ofPerson wsX2_ofPerson) := goodIn_app (goodIn_of _ (by decide +kernel)) ggX3_slipOff_X2_ofPerson
set_option maxRecDepth 20000 in
theorem ggX3_slipOff_X5_has : GoodIn wsX3_slipOff wsX5_has := goodIn_r _ [18] (by decide +kernel) (by decide +kernel)
set_option maxRecDepth 20000 in
theorem gX3_slipOff_X5_has_n77 : GoodIn wsX3_slipOff (wsX5_has) := ggX3_slipOff_X5_has
theorem dX3_slipOff_0 : decode cX3_slipOff 0 = .ok (.iconst 0, 1) := by decide +kernel
theorem dX3_slipOff_1 : decode cX3_slipOff 1 = .ok (.istore_n 3, 1) := by decide +kernel
theorem dX3_slipOff_2 : decode cX3_slipOff 2 = .ok (.iload_n 3, 1) := by decide +kernel
theorem dX3_slipOff_3 : decode cX3_slipOff 3 = .ok (.bipush 6, 2) := by decide +kernel
theorem dX3_slipOff_5 : decode cX3_slipOff 5 = .ok (.if_icmp .ge 73, 3) := by decide +kernel
theorem dX3_slipOff_8 : decode cX3_slipOff 8 = .ok (.aload_n 0, 1) := by decide +kernel
theorem dX3_slipOff_9 : decode cX3_slipOff 9 = .ok (.getfield 37, 3) := by decide +kernel
theorem dX3_slipOff_12 : decode cX3_slipOff 12 = .ok (.iload_n 3, 1) := by decide +kernel
theorem dX3_slipOff_13 : decode cX3_slipOff 13 = .ok (.iconst 0, 1) := by decide +kernel
theorem dX3_slipOff_14 : decode cX3_slipOff 14 = .ok (.invokevirtual 53, 3) := by decide +kernel
theorem dX3_slipOff_17 : decode cX3_slipOff 17 = .ok (.istore 4, 2) := by decide +kernel
theorem dX3_slipOff_19 : decode cX3_slipOff 19 = .ok (.aload_n 0, 1) := by decide +kernel
theorem dX3_slipOff_20 : decode cX3_slipOff 20 = .ok (.getfield 21, 3) := by decide +kernel
theorem dX3_slipOff_23 : decode cX3_slipOff 23 = .ok (.iload_n 3, 1) := by decide +kernel
theorem dX3_slipOff_24 : decode cX3_slipOff 24 = .ok (.invokestatic 77, 3) := by decide +kernel
theorem dX3_slipOff_27 : decode cX3_slipOff 27 = .ok (.ifCond .eq 45, 3) := by decide +kernel
theorem dX3_slipOff_30 : decode cX3_slipOff 30 = .ok (.iload_n 2, 1) := by decide +kernel
theorem dX3_slipOff_31 : decode cX3_slipOff 31 = .ok (.iload 4, 2) := by decide +kernel
theorem dX3_slipOff_33 : decode cX3_slipOff 33 = .ok (.ishr, 1) := by decide +kernel
theorem dX3_slipOff_34 : decode cX3_slipOff 34 = .ok (.iconst 1, 1) := by decide +kernel
theorem dX3_slipOff_35 : decode cX3_slipOff 35 = .ok (.iand, 1) := by decide +kernel
theorem dX3_slipOff_36 : decode cX3_slipOff 36 = .ok (.ifCond .ne 36, 3) := by decide +kernel
theorem dX3_slipOff_39 : decode cX3_slipOff 39 = .ok (.iload 4, 2) := by decide +kernel
theorem dX3_slipOff_41 : decode cX3_slipOff 41 = .ok (.iload_n 1, 1) := by decide +kernel
theorem dX3_slipOff_42 : decode cX3_slipOff 42 = .ok (.isub, 1) := by decide +kernel
theorem dX3_slipOff_43 : decode cX3_slipOff 43 = .ok (.invokestatic 108, 3) := by decide +kernel
theorem dX3_slipOff_46 : decode cX3_slipOff 46 = .ok (.aload_n 0, 1) := by decide +kernel
theorem dX3_slipOff_47 : decode cX3_slipOff 47 = .ok (.getfield 37, 3) := by decide +kernel
theorem dX3_slipOff_50 : decode cX3_slipOff 50 = .ok (.iload_n 3, 1) := by decide +kernel
theorem dX3_slipOff_51 : decode cX3_slipOff 51 = .ok (.iconst 3, 1) := by decide +kernel
theorem dX3_slipOff_52 : decode cX3_slipOff 52 = .ok (.invokevirtual 53, 3) := by decide +kernel
theorem dX3_slipOff_55 : decode cX3_slipOff 55 = .ok (.if_icmp .gt 17, 3) := by decide +kernel
theorem dX3_slipOff_58 : decode cX3_slipOff 58 = .ok (.aload_n 0, 1) := by decide +kernel
theorem dX3_slipOff_59 : decode cX3_slipOff 59 = .ok (.dup, 1) := by decide +kernel
theorem dX3_slipOff_60 : decode cX3_slipOff 60 = .ok (.getfield 21, 3) := by decide +kernel
theorem dX3_slipOff_63 : decode cX3_slipOff 63 = .ok (.iconst 1, 1) := by decide +kernel
theorem dX3_slipOff_64 : decode cX3_slipOff 64 = .ok (.iload_n 3, 1) := by decide +kernel
theorem dX3_slipOff_65 : decode cX3_slipOff 65 = .ok (.ishl, 1) := by decide +kernel
theorem dX3_slipOff_66 : decode cX3_slipOff 66 = .ok (.iconst (-1), 1) := by decide +kernel
theorem dX3_slipOff_67 : decode cX3_slipOff 67 = .ok (.ixor, 1) := by decide +kernel
theorem dX3_slipOff_68 : decode cX3_slipOff 68 = .ok (.iand, 1) := by decide +kernel
theorem dX3_slipOff_69 : decode cX3_slipOff 69 = .ok (.putfield 21, 3) := by decide +kernel
theorem dX3_slipOff_72 : decode cX3_slipOff 72 = .ok (.iinc 3 1, 3) := by decide +kernel
theorem dX3_slipOff_75 : decode cX3_slipOff 75 = .ok (.goto (-73), 3) := by decide +kernel
theorem dX3_slipOff_78 : decode cX3_slipOff 78 = .ok (.return_, 1) := by decide +kernel
theorem dX4_init_0 : decode cX4_init 0 = .ok (.aload_n 0, 1) := by decide +kernel
theorem dX4_init_1 : decode cX4_init 1 = .ok (.invokespecial 3, 3) := by decide +kernel
theorem dX4_init_4 : decode cX4_init 4 = .ok (.aload_n 0, 1) := by decide +kernel
theorem dX4_init_5 : decode cX4_init 5 = .ok (.bipush 64, 2) := by decide +kernel
theorem dX4_init_7 : decode cX4_init 7 = .ok (.newarray .int, 2) := by decide +kernel
theorem dX4_init_9 : decode cX4_init 9 = .ok (.putfield 9, 3) := by decide +kernel
theorem dX4_init_12 : decode cX4_init 12 = .ok (.aload_n 0, 1) := by decide +kernel
theorem dX4_init_13 : decode cX4_init 13 = .ok (.iconst 0, 1) := by decide +kernel
theorem dX4_init_14 : decode cX4_init 14 = .ok (.putfield 15, 3) := by decide +kernel
theorem dX4_init_17 : decode cX4_init 17 = .ok (.return_, 1) := by decide +kernel
theorem dX4_append_0 : decode cX4_append 0 = .ok (.aload_n 0, 1) := by decide +kernel
theorem dX4_append_1 : decode cX4_append 1 = .ok (.getfield 15, 3) := by decide +kernel
theorem dX4_append_4 : decode cX4_append 4 = .ok (.bipush 64, 2) := by decide +kernel
theorem dX4_append_6 : decode cX4_append 6 = .ok (.if_icmp .ge 23, 3) := by decide +kernel
theorem dX4_append_9 : decode cX4_append 9 = .ok (.aload_n 0, 1) := by decide +kernel
theorem dX4_append_10 : decode cX4_append 10 = .ok (.getfield 9, 3) := by decide +kernel
theorem dX4_append_13 : decode cX4_append 13 = .ok (.aload_n 0, 1) := by decide +kernel
theorem dX4_append_14 : decode cX4_append 14 = .ok (.getfield 15, 3) := by decide +kernel
theorem dX4_append_17 : decode cX4_append 17 = .ok (.iload_n 1, 1) := by decide +kernel
theorem dX4_append_18 : decode cX4_append 18 = .ok (.iastore, 1) := by decide +kernel
theorem dX4_append_19 : decode cX4_append 19 = .ok (.aload_n 0, 1) := by decide +kernel
theorem dX4_append_20 : decode cX4_append 20 = .ok (.dup, 1) := by decide +kernel
theorem dX4_append_21 : decode cX4_append 21 = .ok (.getfield 15, 3) := by decide +kernel
theorem dX4_append_24 : decode cX4_append 24 = .ok (.iconst 1, 1) := by decide +kernel
theorem dX4_append_25 : decode cX4_append 25 = .ok (.iadd, 1) := by decide +kernel
theorem dX4_append_26 : decode cX4_append 26 = .ok (.putfield 15, 3) := by decide +kernel
theorem dX4_append_29 : decode cX4_append 29 = .ok (.return_, 1) := by decide +kernel
theorem dX4_clear_0 : decode cX4_clear 0 = .ok (.aload_n 0, 1) := by decide +kernel
theorem dX4_clear_1 : decode cX4_clear 1 = .ok (.iconst 0, 1) := by decide +kernel
theorem dX4_clear_2 : decode cX4_clear 2 = .ok (.putfield 15, 3) := by decide +kernel
theorem dX4_clear_5 : decode cX4_clear 5 = .ok (.return_, 1) := by decide +kernel
theorem dX4_byteAt_0 : decode cX4_byteAt 0 = .ok (.iload_n 1, 1) := by decide +kernel
theorem dX4_byteAt_1 : decode cX4_byteAt 1 = .ok (.ifCond .lt 29, 3) := by decide +kernel
theorem dX4_byteAt_4 : decode cX4_byteAt 4 = .ok (.iload_n 1, 1) := by decide +kernel
theorem dX4_byteAt_5 : decode cX4_byteAt 5 = .ok (.aload_n 0, 1) := by decide +kernel
theorem dX4_byteAt_6 : decode cX4_byteAt 6 = .ok (.getfield 15, 3) := by decide +kernel
theorem dX4_byteAt_9 : decode cX4_byteAt 9 = .ok (.if_icmp .ge 21, 3) := by decide +kernel
theorem dX4_byteAt_12 : decode cX4_byteAt 12 = .ok (.iload_n 1, 1) := by decide +kernel
theorem dX4_byteAt_13 : decode cX4_byteAt 13 = .ok (.aload_n 0, 1) := by decide +kernel
theorem dX4_byteAt_14 : decode cX4_byteAt 14 = .ok (.getfield 9, 3) := by decide +kernel
theorem dX4_byteAt_17 : decode cX4_byteAt 17 = .ok (.arraylength, 1) := by decide +kernel
theorem dX4_byteAt_18 : decode cX4_byteAt 18 = .ok (.if_icmp .ge 12, 3) := by decide +kernel
theorem dX4_byteAt_21 : decode cX4_byteAt 21 = .ok (.aload_n 0, 1) := by decide +kernel
theorem dX4_byteAt_22 : decode cX4_byteAt 22 = .ok (.getfield 9, 3) := by decide +kernel
theorem dX4_byteAt_25 : decode cX4_byteAt 25 = .ok (.iload_n 1, 1) := by decide +kernel
theorem dX4_byteAt_26 : decode cX4_byteAt 26 = .ok (.iaload, 1) := by decide +kernel
theorem dX4_byteAt_27 : decode cX4_byteAt 27 = .ok (.goto 5, 3) := by decide +kernel
theorem dX4_byteAt_30 : decode cX4_byteAt 30 = .ok (.bipush (-9), 2) := by decide +kernel
theorem dX4_byteAt_32 : decode cX4_byteAt 32 = .ok (.ireturn, 1) := by decide +kernel
set_option maxRecDepth 20000 in
theorem ggX4_firstFault_X4_byteAt : GoodIn wsX4_firstFault wsX4_byteAt := goodIn_r _ [6, 1, 7, 15, 16] (by decide +kernel) (by decide +kernel)
set_option maxRecDepth 20000 in
theorem gX4_firstFault_X4_byteAt : GoodIn wsX4_firstFault (wsV RX4 19 RX4 yX4_byteAt wsX4_byteAt) := goodIn_app (goodIn_of _ (by decide +kernel)) ggX4_firstFault_X4_byteAt
set_option maxRecDepth 20000 in
theorem ggX4_firstFault_X4_firstWrongFigure : GoodIn wsX4_firstFault wsX4_firstWrongFigure := goodIn_r _ [11, 1, 2, 3, 4, 5, 6, 7, 12, 13, 14, 15, 16] (by decide +kernel) (by decide +kernel)
set_option maxRecDepth 20000 in
theorem gX4_firstFault_X4_firstWrongFigure : GoodIn wsX4_firstFault (wsV RX4 29 RX4 yX4_firstWrongFigure wsX4_firstWrongFigure) := goodIn_app (goodIn_of _ (by decide +kernel)) ggX4_firstFault_X4_firstWrongFigure
theorem dX4_firstFault_0 : decode cX4_firstFault 0 = .ok (.aload_n 0, 1) := by decide +kernel
theorem dX4_firstFault_1 : decode cX4_firstFault 1 = .ok (.iconst 0, 1) := by decide +kernel
theorem dX4_firstFault_2 : decode cX4_firstFault 2 = .ok (.invokevirtual 19, 3) := by decide +kernel
theorem dX4_firstFault_5 : decode cX4_firstFault 5 = .ok (.bipush 72, 2) := by decide +kernel
theorem dX4_firstFault_7 : decode cX4_firstFault 7 = .ok (.if_icmp .eq 5, 3) := by decide +kernel
theorem dX4_firstFault_10 : decode cX4_firstFault 10 = .ok (.iconst 0, 1) := by decide +kernel
theorem dX4_firstFault_11 : decode cX4_firstFault 11 = .ok (.ireturn, 1) := by decide +kernel
theorem dX4_firstFault_12 : decode cX4_firstFault 12 = .ok (.iconst 0, 1) := by decide +kernel
theorem dX4_firstFault_13 : decode cX4_firstFault 13 = .ok (.istore_n 1, 1) := by decide +kernel
theorem dX4_firstFault_14 : decode cX4_firstFault 14 = .ok (.iconst 0, 1) := by decide +kernel
theorem dX4_firstFault_15 : decode cX4_firstFault 15 = .ok (.istore_n 2, 1) := by decide +kernel
theorem dX4_firstFault_16 : decode cX4_firstFault 16 = .ok (.iconst 0, 1) := by decide +kernel
theorem dX4_firstFault_17 : decode cX4_firstFault 17 = .ok (.istore_n 3, 1) := by decide +kernel
theorem dX4_firstFault_18 : decode cX4_firstFault 18 = .ok (.iconst 1, 1) := by decide +kernel
theorem dX4_firstFault_19 : decode cX4_firstFault 19 = .ok (.istore 4, 2) := by decide +kernel
theorem dX4_firstFault_21 : decode cX4_firstFault 21 = .ok (.iload 4, 2) := by decide +kernel
theorem dX4_firstFault_23 : decode cX4_firstFault 23 = .ok (.aload_n 0, 1) := by decide +kernel
theorem dX4_firstFault_24 : decode cX4_firstFault 24 = .ok (.getfield 15, 3) := by decide +kernel
theorem dX4_firstFault_27 : decode cX4_firstFault 27 = .ok (.if_icmp .ge 105, 3) := by decide +kernel
theorem dX4_firstFault_30 : decode cX4_firstFault 30 = .ok (.iload 4, 2) := by decide +kernel
theorem dX4_firstFault_32 : decode cX4_firstFault 32 = .ok (.istore 5, 2) := by decide +kernel
theorem dX4_firstFault_34 : decode cX4_firstFault 34 = .ok (.aload_n 0, 1) := by decide +kernel
theorem dX4_firstFault_35 : decode cX4_firstFault 35 = .ok (.iload 4, 2) := by decide +kernel
theorem dX4_firstFault_37 : decode cX4_firstFault 37 = .ok (.invokevirtual 19, 3) := by decide +kernel
theorem dX4_firstFault_40 : decode cX4_firstFault 40 = .ok (.bipush 80, 2) := by decide +kernel
theorem dX4_firstFault_42 : decode cX4_firstFault 42 = .ok (.if_icmp .ne 34, 3) := by decide +kernel
theorem dX4_firstFault_45 : decode cX4_firstFault 45 = .ok (.iload_n 1, 1) := by decide +kernel
theorem dX4_firstFault_46 : decode cX4_firstFault 46 = .ok (.bipush 6, 2) := by decide +kernel
theorem dX4_firstFault_48 : decode cX4_firstFault 48 = .ok (.if_icmp .ge 28, 3) := by decide +kernel
theorem dX4_firstFault_51 : decode cX4_firstFault 51 = .ok (.iinc 1 1, 3) := by decide +kernel
theorem dX4_firstFault_54 : decode cX4_firstFault 54 = .ok (.aload_n 0, 1) := by decide +kernel
theorem dX4_firstFault_55 : decode cX4_firstFault 55 = .ok (.iload 4, 2) := by decide +kernel
theorem dX4_firstFault_57 : decode cX4_firstFault 57 = .ok (.iconst 1, 1) := by decide +kernel
theorem dX4_firstFault_58 : decode cX4_firstFault 58 = .ok (.iadd, 1) := by decide +kernel
theorem dX4_firstFault_59 : decode cX4_firstFault 59 = .ok (.getstatic 23, 3) := by decide +kernel
theorem dX4_firstFault_62 : decode cX4_firstFault 62 = .ok (.getstatic 26, 3) := by decide +kernel
theorem dX4_firstFault_65 : decode cX4_firstFault 65 = .ok (.invokevirtual 29, 3) := by decide +kernel
theorem dX4_firstFault_68 : decode cX4_firstFault 68 = .ok (.istore 5, 2) := by decide +kernel
theorem dX4_firstFault_70 : decode cX4_firstFault 70 = .ok (.bipush 7, 2) := by decide +kernel
theorem dX4_firstFault_72 : decode cX4_firstFault 72 = .ok (.istore_n 3, 1) := by decide +kernel
theorem dX4_firstFault_73 : decode cX4_firstFault 73 = .ok (.goto 40, 3) := by decide +kernel
theorem dX4_firstFault_76 : decode cX4_firstFault 76 = .ok (.aload_n 0, 1) := by decide +kernel
theorem dX4_firstFault_77 : decode cX4_firstFault 77 = .ok (.iload 4, 2) := by decide +kernel
theorem dX4_firstFault_79 : decode cX4_firstFault 79 = .ok (.invokevirtual 19, 3) := by decide +kernel
theorem dX4_firstFault_82 : decode cX4_firstFault 82 = .ok (.bipush 84, 2) := by decide +kernel
theorem dX4_firstFault_84 : decode cX4_firstFault 84 = .ok (.if_icmp .ne 29, 3) := by decide +kernel
theorem dX4_firstFault_87 : decode cX4_firstFault 87 = .ok (.iload_n 2, 1) := by decide +kernel
theorem dX4_firstFault_88 : decode cX4_firstFault 88 = .ok (.iconst 4, 1) := by decide +kernel
theorem dX4_firstFault_89 : decode cX4_firstFault 89 = .ok (.if_icmp .ge 24, 3) := by decide +kernel
theorem dX4_firstFault_92 : decode cX4_firstFault 92 = .ok (.iinc 2 1, 3) := by decide +kernel
theorem dX4_firstFault_95 : decode cX4_firstFault 95 = .ok (.aload_n 0, 1) := by decide +kernel
theorem dX4_firstFault_96 : decode cX4_firstFault 96 = .ok (.iload 4, 2) := by decide +kernel
theorem dX4_firstFault_98 : decode cX4_firstFault 98 = .ok (.iconst 1, 1) := by decide +kernel
theorem dX4_firstFault_99 : decode cX4_firstFault 99 = .ok (.iadd, 1) := by decide +kernel
theorem dX4_firstFault_100 : decode cX4_firstFault 100 = .ok (.getstatic 33, 3) := by decide +kernel
theorem dX4_firstFault_103 : decode cX4_firstFault 103 = .ok (.getstatic 36, 3) := by decide +kernel
theorem dX4_firstFault_106 : decode cX4_firstFault 106 = .ok (.invokevirtual 29, 3) := by decide +kernel
theorem dX4_firstFault_109 : decode cX4_firstFault 109 = .ok (.istore 5, 2) := by decide +kernel
theorem dX4_firstFault_111 : decode cX4_firstFault 111 = .ok (.iconst 4, 1) := by decide +kernel
theorem dX4_firstFault_112 : decode cX4_firstFault 112 = .ok (.istore_n 3, 1) := by decide +kernel
theorem dX4_firstFault_113 : decode cX4_firstFault 113 = .ok (.iload 5, 2) := by decide +kernel
theorem dX4_firstFault_115 : decode cX4_firstFault 115 = .ok (.bipush (-9), 2) := by decide +kernel
theorem dX4_firstFault_117 : decode cX4_firstFault 117 = .ok (.if_icmp .eq 6, 3) := by decide +kernel
theorem dX4_firstFault_120 : decode cX4_firstFault 120 = .ok (.iload 5, 2) := by decide +kernel
theorem dX4_firstFault_122 : decode cX4_firstFault 122 = .ok (.ireturn, 1) := by decide +kernel
theorem dX4_firstFault_123 : decode cX4_firstFault 123 = .ok (.iload 4, 2) := by decide +kernel
theorem dX4_firstFault_125 : decode cX4_firstFault 125 = .ok (.iload_n 3, 1) := by decide +kernel
theorem dX4_firstFault_126 : decode cX4_firstFault 126 = .ok (.iadd, 1) := by decide +kernel
theorem dX4_firstFault_127 : decode cX4_firstFault 127 = .ok (.istore 4, 2) := by decide +kernel
theorem dX4_firstFault_129 : decode cX4_firstFault 129 = .ok (.goto (-108), 3) := by decide +kernel
theorem dX4_firstFault_132 : decode cX4_firstFault 132 = .ok (.bipush (-9), 2) := by decide +kernel
theorem dX4_firstFault_134 : decode cX4_firstFault 134 = .ok (.ireturn, 1) := by decide +kernel
set_option maxRecDepth 20000 in
theorem ggX4_firstWrongFigure_X4_byteAt : GoodIn wsX4_firstWrongFigure wsX4_byteAt := goodIn_r _ [6, 1, 7, 11, 12] (by decide +kernel) (by decide +kernel)
set_option maxRecDepth 20000 in
theorem gX4_firstWrongFigure_X4_byteAt : GoodIn wsX4_firstWrongFigure (wsV RX4 19 RX4 yX4_byteAt wsX4_byteAt) := goodIn_app (goodIn_of _ (by decide +kernel)) ggX4_firstWrongFigure_X4_byteAt
set_option maxRecDepth 20000 in
theorem ggX4_firstWrongFigure_X5_isWithin : GoodIn wsX4_firstWrongFigure wsX5_isWithin := goodIn_r _ [10] (by decide +kernel) (by decide +kernel)
set_option maxRecDepth 20000 in
theorem gX4_firstWrongFigure_X5_isWithin_n39 : GoodIn wsX4_firstWrongFigure (wsX5_isWithin) := ggX4_firstWrongFigure_X5_isWithin
theorem dX4_firstWrongFigure_0 : decode cX4_firstWrongFigure 0 = .ok (.iconst 0, 1) := by decide +kernel
theorem dX4_firstWrongFigure_1 : decode cX4_firstWrongFigure 1 = .ok (.istore 4, 2) := by decide +kernel
theorem dX4_firstWrongFigure_3 : decode cX4_firstWrongFigure 3 = .ok (.iload 4, 2) := by decide +kernel
theorem dX4_firstWrongFigure_5 : decode cX4_firstWrongFigure 5 = .ok (.aload_n 2, 1) := by decide +kernel
theorem dX4_firstWrongFigure_6 : decode cX4_firstWrongFigure 6 = .ok (.arraylength, 1) := by decide +kernel
theorem dX4_firstWrongFigure_7 : decode cX4_firstWrongFigure 7 = .ok (.if_icmp .ge 62, 3) := by decide +kernel
theorem dX4_firstWrongFigure_10 : decode cX4_firstWrongFigure 10 = .ok (.iload 4, 2) := by decide +kernel
theorem dX4_firstWrongFigure_12 : decode cX4_firstWrongFigure 12 = .ok (.aload_n 3, 1) := by decide +kernel
theorem dX4_firstWrongFigure_13 : decode cX4_firstWrongFigure 13 = .ok (.arraylength, 1) := by decide +kernel
theorem dX4_firstWrongFigure_14 : decode cX4_firstWrongFigure 14 = .ok (.if_icmp .ge 55, 3) := by decide +kernel
theorem dX4_firstWrongFigure_17 : decode cX4_firstWrongFigure 17 = .ok (.iload_n 1, 1) := by decide +kernel
theorem dX4_firstWrongFigure_18 : decode cX4_firstWrongFigure 18 = .ok (.iload 4, 2) := by decide +kernel
theorem dX4_firstWrongFigure_20 : decode cX4_firstWrongFigure 20 = .ok (.iadd, 1) := by decide +kernel
theorem dX4_firstWrongFigure_21 : decode cX4_firstWrongFigure 21 = .ok (.aload_n 0, 1) := by decide +kernel
theorem dX4_firstWrongFigure_22 : decode cX4_firstWrongFigure 22 = .ok (.getfield 15, 3) := by decide +kernel
theorem dX4_firstWrongFigure_25 : decode cX4_firstWrongFigure 25 = .ok (.if_icmp .lt 8, 3) := by decide +kernel
theorem dX4_firstWrongFigure_28 : decode cX4_firstWrongFigure 28 = .ok (.aload_n 0, 1) := by decide +kernel
theorem dX4_firstWrongFigure_29 : decode cX4_firstWrongFigure 29 = .ok (.getfield 15, 3) := by decide +kernel
theorem dX4_firstWrongFigure_32 : decode cX4_firstWrongFigure 32 = .ok (.ireturn, 1) := by decide +kernel
theorem dX4_firstWrongFigure_33 : decode cX4_firstWrongFigure 33 = .ok (.aload_n 0, 1) := by decide +kernel
theorem dX4_firstWrongFigure_34 : decode cX4_firstWrongFigure 34 = .ok (.iload_n 1, 1) := by decide +kernel
theorem dX4_firstWrongFigure_35 : decode cX4_firstWrongFigure 35 = .ok (.iload 4, 2) := by decide +kernel
theorem dX4_firstWrongFigure_37 : decode cX4_firstWrongFigure 37 = .ok (.iadd, 1) := by decide +kernel
theorem dX4_firstWrongFigure_38 : decode cX4_firstWrongFigure 38 = .ok (.invokevirtual 19, 3) := by decide +kernel
theorem dX4_firstWrongFigure_41 : decode cX4_firstWrongFigure 41 = .ok (.bipush 48, 2) := by decide +kernel
theorem dX4_firstWrongFigure_43 : decode cX4_firstWrongFigure 43 = .ok (.isub, 1) := by decide +kernel
theorem dX4_firstWrongFigure_44 : decode cX4_firstWrongFigure 44 = .ok (.aload_n 2, 1) := by decide +kernel
theorem dX4_firstWrongFigure_45 : decode cX4_firstWrongFigure 45 = .ok (.iload 4, 2) := by decide +kernel
theorem dX4_firstWrongFigure_47 : decode cX4_firstWrongFigure 47 = .ok (.iaload, 1) := by decide +kernel
theorem dX4_firstWrongFigure_48 : decode cX4_firstWrongFigure 48 = .ok (.aload_n 3, 1) := by decide +kernel
theorem dX4_firstWrongFigure_49 : decode cX4_firstWrongFigure 49 = .ok (.iload 4, 2) := by decide +kernel
theorem dX4_firstWrongFigure_51 : decode cX4_firstWrongFigure 51 = .ok (.iaload, 1) := by decide +kernel
theorem dX4_firstWrongFigure_52 : decode cX4_firstWrongFigure 52 = .ok (.invokestatic 39, 3) := by decide +kernel
theorem dX4_firstWrongFigure_55 : decode cX4_firstWrongFigure 55 = .ok (.ifCond .ne 8, 3) := by decide +kernel
theorem dX4_firstWrongFigure_58 : decode cX4_firstWrongFigure 58 = .ok (.iload_n 1, 1) := by decide +kernel
theorem dX4_firstWrongFigure_59 : decode cX4_firstWrongFigure 59 = .ok (.iload 4, 2) := by decide +kernel
theorem dX4_firstWrongFigure_61 : decode cX4_firstWrongFigure 61 = .ok (.iadd, 1) := by decide +kernel
theorem dX4_firstWrongFigure_62 : decode cX4_firstWrongFigure 62 = .ok (.ireturn, 1) := by decide +kernel
theorem dX4_firstWrongFigure_63 : decode cX4_firstWrongFigure 63 = .ok (.iinc 4 1, 3) := by decide +kernel
theorem dX4_firstWrongFigure_66 : decode cX4_firstWrongFigure 66 = .ok (.goto (-63), 3) := by decide +kernel
theorem dX4_firstWrongFigure_69 : decode cX4_firstWrongFigure 69 = .ok (.bipush (-9), 2) := by decide +kernel
theorem dX4_firstWrongFigure_71 : decode cX4_firstWrongFigure 71 = .ok (.ireturn, 1) := by decide +kernel
