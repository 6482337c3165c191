theorem dX8_faultAmong_1 : decode cX8_faultAmong 1 = .ok (.invokevirtual 25, 3) := by decide +kernel
theorem dX8_faultAmong_4 : decode cX8_faultAmong 4 = .ok (.istore_n 2, 1) := by decide +kernel
theorem dX8_faultAmong_5 : decode cX8_faultAmong 5 = .ok (.iload_n 2, 1) := by decide +kernel
theorem dX8_faultAmong_6 : decode cX8_faultAmong 6 = .ok (.iconst (-1), 1) := by decide +kernel
theorem dX8_faultAmong_7 : decode cX8_faultAmong 7 = .ok (.if_icmp .eq 5, 3) := by decide +kernel
theorem dX8_faultAmong_10 : decode cX8_faultAmong 10 = .ok (.iload_n 2, 1) := by decide +kernel
theorem dX8_faultAmong_11 : decode cX8_faultAmong 11 = .ok (.ireturn, 1) := by decide +kernel
theorem dX8_faultAmong_12 : decode cX8_faultAmong 12 = .ok (.iconst 0, 1) := by decide +kernel
theorem dX8_faultAmong_13 : decode cX8_faultAmong 13 = .ok (.istore_n 3, 1) := by decide +kernel
theorem dX8_faultAmong_14 : decode cX8_faultAmong 14 = .ok (.iload_n 3, 1) := by decide +kernel
theorem dX8_faultAmong_15 : decode cX8_faultAmong 15 = .ok (.aload_n 0, 1) := by decide +kernel
theorem dX8_faultAmong_16 : decode cX8_faultAmong 16 = .ok (.getfield 29, 3) := by decide +kernel
theorem dX8_faultAmong_19 : decode cX8_faultAmong 19 = .ok (.if_icmp .ge 34, 3) := by decide +kernel
theorem dX8_faultAmong_22 : decode cX8_faultAmong 22 = .ok (.aload_n 0, 1) := by decide +kernel
theorem dX8_faultAmong_23 : decode cX8_faultAmong 23 = .ok (.getfield 15, 3) := by decide +kernel
theorem dX8_faultAmong_26 : decode cX8_faultAmong 26 = .ok (.iload_n 3, 1) := by decide +kernel
theorem dX8_faultAmong_27 : decode cX8_faultAmong 27 = .ok (.iaload, 1) := by decide +kernel
theorem dX8_faultAmong_28 : decode cX8_faultAmong 28 = .ok (.iload_n 1, 1) := by decide +kernel
theorem dX8_faultAmong_29 : decode cX8_faultAmong 29 = .ok (.if_icmp .ge 11, 3) := by decide +kernel
theorem dX8_faultAmong_32 : decode cX8_faultAmong 32 = .ok (.aload_n 0, 1) := by decide +kernel
theorem dX8_faultAmong_33 : decode cX8_faultAmong 33 = .ok (.iload_n 3, 1) := by decide +kernel
theorem dX8_faultAmong_34 : decode cX8_faultAmong 34 = .ok (.invokevirtual 32, 3) := by decide +kernel
theorem dX8_faultAmong_37 : decode cX8_faultAmong 37 = .ok (.ifCond .eq 10, 3) := by decide +kernel
theorem dX8_faultAmong_40 : decode cX8_faultAmong 40 = .ok (.aload_n 0, 1) := by decide +kernel
theorem dX8_faultAmong_41 : decode cX8_faultAmong 41 = .ok (.getfield 18, 3) := by decide +kernel
theorem dX8_faultAmong_44 : decode cX8_faultAmong 44 = .ok (.iload_n 3, 1) := by decide +kernel
theorem dX8_faultAmong_45 : decode cX8_faultAmong 45 = .ok (.iaload, 1) := by decide +kernel
theorem dX8_faultAmong_46 : decode cX8_faultAmong 46 = .ok (.ireturn, 1) := by decide +kernel
theorem dX8_faultAmong_47 : decode cX8_faultAmong 47 = .ok (.iinc 3 1, 3) := by decide +kernel
theorem dX8_faultAmong_50 : decode cX8_faultAmong 50 = .ok (.goto (-36), 3) := by decide +kernel
theorem dX8_faultAmong_53 : decode cX8_faultAmong 53 = .ok (.iconst (-1), 1) := by decide +kernel
theorem dX8_faultAmong_54 : decode cX8_faultAmong 54 = .ok (.ireturn, 1) := by decide +kernel
theorem dX8_isToldBefore_0 : decode cX8_isToldBefore 0 = .ok (.iconst 0, 1) := by decide +kernel
theorem dX8_isToldBefore_1 : decode cX8_isToldBefore 1 = .ok (.istore_n 2, 1) := by decide +kernel
theorem dX8_isToldBefore_2 : decode cX8_isToldBefore 2 = .ok (.iload_n 2, 1) := by decide +kernel
theorem dX8_isToldBefore_3 : decode cX8_isToldBefore 3 = .ok (.iload_n 1, 1) := by decide +kernel
theorem dX8_isToldBefore_4 : decode cX8_isToldBefore 4 = .ok (.if_icmp .ge 26, 3) := by decide +kernel
theorem dX8_isToldBefore_7 : decode cX8_isToldBefore 7 = .ok (.aload_n 0, 1) := by decide +kernel
theorem dX8_isToldBefore_8 : decode cX8_isToldBefore 8 = .ok (.getfield 15, 3) := by decide +kernel
theorem dX8_isToldBefore_11 : decode cX8_isToldBefore 11 = .ok (.iload_n 2, 1) := by decide +kernel
theorem dX8_isToldBefore_12 : decode cX8_isToldBefore 12 = .ok (.iaload, 1) := by decide +kernel
theorem dX8_isToldBefore_13 : decode cX8_isToldBefore 13 = .ok (.aload_n 0, 1) := by decide +kernel
theorem dX8_isToldBefore_14 : decode cX8_isToldBefore 14 = .ok (.getfield 15, 3) := by decide +kernel
theorem dX8_isToldBefore_17 : decode cX8_isToldBefore 17 = .ok (.iload_n 1, 1) := by decide +kernel
theorem dX8_isToldBefore_18 : decode cX8_isToldBefore 18 = .ok (.iaload, 1) := by decide +kernel
theorem dX8_isToldBefore_19 : decode cX8_isToldBefore 19 = .ok (.if_icmp .ne 5, 3) := by decide +kernel
theorem dX8_isToldBefore_22 : decode cX8_isToldBefore 22 = .ok (.iconst 1, 1) := by decide +kernel
theorem dX8_isToldBefore_23 : decode cX8_isToldBefore 23 = .ok (.ireturn, 1) := by decide +kernel
theorem dX8_isToldBefore_24 : decode cX8_isToldBefore 24 = .ok (.iinc 2 1, 3) := by decide +kernel
theorem dX8_isToldBefore_27 : decode cX8_isToldBefore 27 = .ok (.goto (-25), 3) := by decide +kernel
theorem dX8_isToldBefore_30 : decode cX8_isToldBefore 30 = .ok (.iconst 0, 1) := by decide +kernel
theorem dX8_isToldBefore_31 : decode cX8_isToldBefore 31 = .ok (.ireturn, 1) := by decide +kernel
set_option maxRecDepth 20000 in
theorem ggX8_readNumbers_X11_isBetween : GoodIn wsX8_readNumbers wsX11_isBetween := goodIn_r _ [6] (by decide +kernel) (by decide +kernel)
set_option maxRecDepth 20000 in
theorem gX8_readNumbers_X11_isBetween_n36 : GoodIn wsX8_readNumbers (wsX11_isBetween) := ggX8_readNumbers_X11_isBetween
set_option maxRecDepth 20000 in
theorem ggX8_readNumbers_X8_readDigit : GoodIn wsX8_readNumbers wsX8_readDigit := goodIn_r _ [11, 1, 12, 13, 4, 5, 6, 14, 15, 16, 17, 18] (by decide +kernel) (by decide +kernel)
set_option maxRecDepth 20000 in
theorem gX8_readNumbers_X8_readDigit : GoodIn wsX8_readNumbers (wsV RX8 40 RX8 yX8_readDigit wsX8_readDigit) := goodIn_app (goodIn_of _ (by decide +kernel)) ggX8_readNumbers_X8_readDigit
theorem dX8_readNumbers_0 : decode cX8_readNumbers 0 = .ok (.aload_n 0, 1) := by decide +kernel
theorem dX8_readNumbers_1 : decode cX8_readNumbers 1 = .ok (.iconst 0, 1) := by decide +kernel
theorem dX8_readNumbers_2 : decode cX8_readNumbers 2 = .ok (.putfield 29, 3) := by decide +kernel
theorem dX8_readNumbers_5 : decode cX8_readNumbers 5 = .ok (.iconst 0, 1) := by decide +kernel
theorem dX8_readNumbers_6 : decode cX8_readNumbers 6 = .ok (.istore_n 1, 1) := by decide +kernel
theorem dX8_readNumbers_7 : decode cX8_readNumbers 7 = .ok (.iconst 0, 1) := by decide +kernel
theorem dX8_readNumbers_8 : decode cX8_readNumbers 8 = .ok (.istore_n 2, 1) := by decide +kernel
theorem dX8_readNumbers_9 : decode cX8_readNumbers 9 = .ok (.iload_n 2, 1) := by decide +kernel
theorem dX8_readNumbers_10 : decode cX8_readNumbers 10 = .ok (.aload_n 0, 1) := by decide +kernel
theorem dX8_readNumbers_11 : decode cX8_readNumbers 11 = .ok (.getfield 21, 3) := by decide +kernel
theorem dX8_readNumbers_14 : decode cX8_readNumbers 14 = .ok (.if_icmp .ge 82, 3) := by decide +kernel
theorem dX8_readNumbers_17 : decode cX8_readNumbers 17 = .ok (.aload_n 0, 1) := by decide +kernel
theorem dX8_readNumbers_18 : decode cX8_readNumbers 18 = .ok (.getfield 9, 3) := by decide +kernel
theorem dX8_readNumbers_21 : decode cX8_readNumbers 21 = .ok (.iload_n 2, 1) := by decide +kernel
theorem dX8_readNumbers_22 : decode cX8_readNumbers 22 = .ok (.iaload, 1) := by decide +kernel
theorem dX8_readNumbers_23 : decode cX8_readNumbers 23 = .ok (.istore_n 3, 1) := by decide +kernel
theorem dX8_readNumbers_24 : decode cX8_readNumbers 24 = .ok (.iload_n 3, 1) := by decide +kernel
theorem dX8_readNumbers_25 : decode cX8_readNumbers 25 = .ok (.bipush 48, 2) := by decide +kernel
theorem dX8_readNumbers_27 : decode cX8_readNumbers 27 = .ok (.bipush 57, 2) := by decide +kernel
theorem dX8_readNumbers_29 : decode cX8_readNumbers 29 = .ok (.invokestatic 36, 3) := by decide +kernel
theorem dX8_readNumbers_32 : decode cX8_readNumbers 32 = .ok (.ifCond .eq 33, 3) := by decide +kernel
theorem dX8_readNumbers_35 : decode cX8_readNumbers 35 = .ok (.iload_n 1, 1) := by decide +kernel
theorem dX8_readNumbers_36 : decode cX8_readNumbers 36 = .ok (.iconst 2, 1) := by decide +kernel
theorem dX8_readNumbers_37 : decode cX8_readNumbers 37 = .ok (.if_icmp .ge 28, 3) := by decide +kernel
theorem dX8_readNumbers_40 : decode cX8_readNumbers 40 = .ok (.iinc 1 1, 3) := by decide +kernel
theorem dX8_readNumbers_43 : decode cX8_readNumbers 43 = .ok (.aload_n 0, 1) := by decide +kernel
theorem dX8_readNumbers_44 : decode cX8_readNumbers 44 = .ok (.iload_n 2, 1) := by decide +kernel
theorem dX8_readNumbers_45 : decode cX8_readNumbers 45 = .ok (.iload_n 3, 1) := by decide +kernel
theorem dX8_readNumbers_46 : decode cX8_readNumbers 46 = .ok (.bipush 48, 2) := by decide +kernel
theorem dX8_readNumbers_48 : decode cX8_readNumbers 48 = .ok (.isub, 1) := by decide +kernel
theorem dX8_readNumbers_49 : decode cX8_readNumbers 49 = .ok (.iload_n 1, 1) := by decide +kernel
theorem dX8_readNumbers_50 : decode cX8_readNumbers 50 = .ok (.iconst 1, 1) := by decide +kernel
theorem dX8_readNumbers_51 : decode cX8_readNumbers 51 = .ok (.if_icmp .ne 7, 3) := by decide +kernel
theorem dX8_readNumbers_54 : decode cX8_readNumbers 54 = .ok (.iconst 1, 1) := by decide +kernel
theorem dX8_readNumbers_55 : decode cX8_readNumbers 55 = .ok (.goto 4, 3) := by decide +kernel
theorem dX8_readNumbers_58 : decode cX8_readNumbers 58 = .ok (.iconst 0, 1) := by decide +kernel
theorem dX8_readNumbers_59 : decode cX8_readNumbers 59 = .ok (.invokevirtual 40, 3) := by decide +kernel
theorem dX8_readNumbers_62 : decode cX8_readNumbers 62 = .ok (.goto 28, 3) := by decide +kernel
theorem dX8_readNumbers_65 : decode cX8_readNumbers 65 = .ok (.iload_n 3, 1) := by decide +kernel
theorem dX8_readNumbers_66 : decode cX8_readNumbers 66 = .ok (.bipush 44, 2) := by decide +kernel
theorem dX8_readNumbers_68 : decode cX8_readNumbers 68 = .ok (.if_icmp .ne 20, 3) := by decide +kernel
theorem dX8_readNumbers_71 : decode cX8_readNumbers 71 = .ok (.iload_n 1, 1) := by decide +kernel
theorem dX8_readNumbers_72 : decode cX8_readNumbers 72 = .ok (.ifCond .le 16, 3) := by decide +kernel
theorem dX8_readNumbers_75 : decode cX8_readNumbers 75 = .ok (.aload_n 0, 1) := by decide +kernel
theorem dX8_readNumbers_76 : decode cX8_readNumbers 76 = .ok (.getfield 29, 3) := by decide +kernel
theorem dX8_readNumbers_79 : decode cX8_readNumbers 79 = .ok (.iconst 4, 1) := by decide +kernel
theorem dX8_readNumbers_80 : decode cX8_readNumbers 80 = .ok (.if_icmp .ge 8, 3) := by decide +kernel
theorem dX8_readNumbers_83 : decode cX8_readNumbers 83 = .ok (.iconst 0, 1) := by decide +kernel
theorem dX8_readNumbers_84 : decode cX8_readNumbers 84 = .ok (.istore_n 1, 1) := by decide +kernel
theorem dX8_readNumbers_85 : decode cX8_readNumbers 85 = .ok (.goto 5, 3) := by decide +kernel
theorem dX8_readNumbers_88 : decode cX8_readNumbers 88 = .ok (.iload_n 2, 1) := by decide +kernel
theorem dX8_readNumbers_89 : decode cX8_readNumbers 89 = .ok (.ireturn, 1) := by decide +kernel
theorem dX8_readNumbers_90 : decode cX8_readNumbers 90 = .ok (.iinc 2 1, 3) := by decide +kernel
theorem dX8_readNumbers_93 : decode cX8_readNumbers 93 = .ok (.goto (-84), 3) := by decide +kernel
theorem dX8_readNumbers_96 : decode cX8_readNumbers 96 = .ok (.iload_n 1, 1) := by decide +kernel
theorem dX8_readNumbers_97 : decode cX8_readNumbers 97 = .ok (.ifCond .ne 10, 3) := by decide +kernel
theorem dX8_readNumbers_100 : decode cX8_readNumbers 100 = .ok (.aload_n 0, 1) := by decide +kernel
theorem dX8_readNumbers_101 : decode cX8_readNumbers 101 = .ok (.getfield 21, 3) := by decide +kernel
theorem dX8_readNumbers_104 : decode cX8_readNumbers 104 = .ok (.goto 4, 3) := by decide +kernel
theorem dX8_readNumbers_107 : decode cX8_readNumbers 107 = .ok (.iconst (-1), 1) := by decide +kernel
theorem dX8_readNumbers_108 : decode cX8_readNumbers 108 = .ok (.ireturn, 1) := by decide +kernel
set_option maxRecDepth 20000 in
theorem ggX8_readDigit_X11_isBetween : GoodIn wsX8_readDigit wsX11_isBetween := goodIn_r _ [6] (by decide +kernel) (by decide +kernel)
set_option maxRecDepth 20000 in
theorem gX8_readDigit_X11_isBetween_n36 : GoodIn wsX8_readDigit (wsX11_isBetween) := ggX8_readDigit_X11_isBetween
theorem dX8_readDigit_0 : decode cX8_readDigit 0 = .ok (.iload_n 3, 1) := by decide +kernel
theorem dX8_readDigit_1 : decode cX8_readDigit 1 = .ok (.ifCond .eq 44, 3) := by decide +kernel
theorem dX8_readDigit_4 : decode cX8_readDigit 4 = .ok (.aload_n 0, 1) := by decide +kernel
theorem dX8_readDigit_5 : decode cX8_readDigit 5 = .ok (.getfield 29, 3) := by decide +kernel
theorem dX8_readDigit_8 : decode cX8_readDigit 8 = .ok (.iconst 4, 1) := by decide +kernel
theorem dX8_readDigit_9 : decode cX8_readDigit 9 = .ok (.if_icmp .ge 36, 3) := by decide +kernel
theorem dX8_readDigit_12 : decode cX8_readDigit 12 = .ok (.aload_n 0, 1) := by decide +kernel
theorem dX8_readDigit_13 : decode cX8_readDigit 13 = .ok (.getfield 18, 3) := by decide +kernel
theorem dX8_readDigit_16 : decode cX8_readDigit 16 = .ok (.aload_n 0, 1) := by decide +kernel
theorem dX8_readDigit_17 : decode cX8_readDigit 17 = .ok (.getfield 29, 3) := by decide +kernel
theorem dX8_readDigit_20 : decode cX8_readDigit 20 = .ok (.iload_n 1, 1) := by decide +kernel
theorem dX8_readDigit_21 : decode cX8_readDigit 21 = .ok (.iastore, 1) := by decide +kernel
theorem dX8_readDigit_22 : decode cX8_readDigit 22 = .ok (.aload_n 0, 1) := by decide +kernel
theorem dX8_readDigit_23 : decode cX8_readDigit 23 = .ok (.getfield 15, 3) := by decide +kernel
theorem dX8_readDigit_26 : decode cX8_readDigit 26 = .ok (.aload_n 0, 1) := by decide +kernel
theorem dX8_readDigit_27 : decode cX8_readDigit 27 = .ok (.getfield 29, 3) := by decide +kernel
theorem dX8_readDigit_30 : decode cX8_readDigit 30 = .ok (.iload_n 2, 1) := by decide +kernel
theorem dX8_readDigit_31 : decode cX8_readDigit 31 = .ok (.iastore, 1) := by decide +kernel
theorem dX8_readDigit_32 : decode cX8_readDigit 32 = .ok (.aload_n 0, 1) := by decide +kernel
theorem dX8_readDigit_33 : decode cX8_readDigit 33 = .ok (.dup, 1) := by decide +kernel
theorem dX8_readDigit_34 : decode cX8_readDigit 34 = .ok (.getfield 29, 3) := by decide +kernel
theorem dX8_readDigit_37 : decode cX8_readDigit 37 = .ok (.iconst 1, 1) := by decide +kernel
theorem dX8_readDigit_38 : decode cX8_readDigit 38 = .ok (.iadd, 1) := by decide +kernel
theorem dX8_readDigit_39 : decode cX8_readDigit 39 = .ok (.putfield 29, 3) := by decide +kernel
theorem dX8_readDigit_42 : decode cX8_readDigit 42 = .ok (.goto 46, 3) := by decide +kernel
theorem dX8_readDigit_45 : decode cX8_readDigit 45 = .ok (.iload_n 3, 1) := by decide +kernel
theorem dX8_readDigit_46 : decode cX8_readDigit 46 = .ok (.ifCond .ne 42, 3) := by decide +kernel
theorem dX8_readDigit_49 : decode cX8_readDigit 49 = .ok (.aload_n 0, 1) := by decide +kernel
theorem dX8_readDigit_50 : decode cX8_readDigit 50 = .ok (.getfield 29, 3) := by decide +kernel
theorem dX8_readDigit_53 : decode cX8_readDigit 53 = .ok (.iconst 1, 1) := by decide +kernel
theorem dX8_readDigit_54 : decode cX8_readDigit 54 = .ok (.iconst 4, 1) := by decide +kernel
theorem dX8_readDigit_55 : decode cX8_readDigit 55 = .ok (.invokestatic 36, 3) := by decide +kernel
theorem dX8_readDigit_58 : decode cX8_readDigit 58 = .ok (.ifCond .eq 30, 3) := by decide +kernel
theorem dX8_readDigit_61 : decode cX8_readDigit 61 = .ok (.aload_n 0, 1) := by decide +kernel
theorem dX8_readDigit_62 : decode cX8_readDigit 62 = .ok (.getfield 15, 3) := by decide +kernel
theorem dX8_readDigit_65 : decode cX8_readDigit 65 = .ok (.aload_n 0, 1) := by decide +kernel
theorem dX8_readDigit_66 : decode cX8_readDigit 66 = .ok (.getfield 29, 3) := by decide +kernel
theorem dX8_readDigit_69 : decode cX8_readDigit 69 = .ok (.iconst 1, 1) := by decide +kernel
theorem dX8_readDigit_70 : decode cX8_readDigit 70 = .ok (.isub, 1) := by decide +kernel
theorem dX8_readDigit_71 : decode cX8_readDigit 71 = .ok (.aload_n 0, 1) := by decide +kernel
theorem dX8_readDigit_72 : decode cX8_readDigit 72 = .ok (.getfield 15, 3) := by decide +kernel
theorem dX8_readDigit_75 : decode cX8_readDigit 75 = .ok (.aload_n 0, 1) := by decide +kernel
theorem dX8_readDigit_76 : decode cX8_readDigit 76 = .ok (.getfield 29, 3) := by decide +kernel
theorem dX8_readDigit_79 : decode cX8_readDigit 79 = .ok (.iconst 1, 1) := by decide +kernel
theorem dX8_readDigit_80 : decode cX8_readDigit 80 = .ok (.isub, 1) := by decide +kernel
theorem dX8_readDigit_81 : decode cX8_readDigit 81 = .ok (.iaload, 1) := by decide +kernel
theorem dX8_readDigit_82 : decode cX8_readDigit 82 = .ok (.bipush 10, 2) := by decide +kernel
theorem dX8_readDigit_84 : decode cX8_readDigit 84 = .ok (.imul, 1) := by decide +kernel
theorem dX8_readDigit_85 : decode cX8_readDigit 85 = .ok (.iload_n 2, 1) := by decide +kernel
theorem dX8_readDigit_86 : decode cX8_readDigit 86 = .ok (.iadd, 1) := by decide +kernel
theorem dX8_readDigit_87 : decode cX8_readDigit 87 = .ok (.iastore, 1) := by decide +kernel
theorem dX8_readDigit_88 : decode cX8_readDigit 88 = .ok (.return_, 1) := by decide +kernel
set_option maxRecDepth 20000 in
theorem ggX9_init_X6_init : GoodIn wsX9_init wsX6_init := goodIn_r _ [12, 13, 2, 3, 14, 4, 15, 16, 17, 18, 8, 19, 20, 21, 22, 23, 28] (by decide +kernel) (by decide +kernel)
set_option maxRecDepth 20000 in
theorem gX9_init_X6_init : GoodIn wsX9_init (wsX6_init) := ggX9_init_X6_init
theorem dX9_init_0 : decode cX9_init 0 = .ok (.aload_n 0, 1) := by decide +kernel
theorem dX9_init_1 : decode cX9_init 1 = .ok (.invokespecial 3, 3) := by decide +kernel
theorem dX9_init_4 : decode cX9_init 4 = .ok (.aload_n 0, 1) := by decide +kernel
theorem dX9_init_5 : decode cX9_init 5 = .ok (.bipush 12, 2) := by decide +kernel
theorem dX9_init_7 : decode cX9_init 7 = .ok (.newarray .int, 2) := by decide +kernel
theorem dX9_init_9 : decode cX9_init 9 = .ok (.putfield 9, 3) := by decide +kernel
theorem dX9_init_12 : decode cX9_init 12 = .ok (.aload_n 0, 1) := by decide +kernel
theorem dX9_init_13 : decode cX9_init 13 = .ok (.new 15, 3) := by decide +kernel
theorem dX9_init_16 : decode cX9_init 16 = .ok (.dup, 1) := by decide +kernel
theorem dX9_init_17 : decode cX9_init 17 = .ok (.invokespecial 17, 3) := by decide +kernel
theorem dX9_init_20 : decode cX9_init 20 = .ok (.putfield 18, 3) := by decide +kernel
theorem dX9_init_23 : decode cX9_init 23 = .ok (.return_, 1) := by decide +kernel
set_option maxRecDepth 20000 in
theorem ggX9_end_J7_fill_53178 : GoodIn wsX9_end wsJ7_fill_53178 := goodIn_r _ [8] (by decide +kernel) (by decide +kernel)
set_option maxRecDepth 20000 in
theorem gX9_end_J7_fill_53178 : GoodIn wsX9_end (va_wsS RX9 29 yJ7_fill_53178 wsJ7_fill_53178) := goodIn_app (goodIn_of _ (by decide +kernel)) ggX9_end_J7_fill_53178
set_option maxRecDepth 20000 in
theorem ggX9_end_X6_wipe : GoodIn wsX9_end wsX6_wipe := goodIn_r _ [13, 14, 15, 6, 7, 8, 20] (by decide +kernel) (by decide +kernel)
set_option maxRecDepth 20000 in
theorem gX9_end_X6_wipe : GoodIn wsX9_end (wsV RX9 35 RX6 yX6_wipe wsX6_wipe) := goodIn_app (goodIn_of _ (by decide +kernel)) ggX9_end_X6_wipe
theorem dX9_end_0 : decode cX9_end 0 = .ok (.aload_n 0, 1) := by decide +kernel
theorem dX9_end_1 : decode cX9_end 1 = .ok (.iconst 0, 1) := by decide +kernel
theorem dX9_end_2 : decode cX9_end 2 = .ok (.putfield 22, 3) := by decide +kernel
theorem dX9_end_5 : decode cX9_end 5 = .ok (.aload_n 0, 1) := by decide +kernel
theorem dX9_end_6 : decode cX9_end 6 = .ok (.iconst 0, 1) := by decide +kernel
theorem dX9_end_7 : decode cX9_end 7 = .ok (.putfield 26, 3) := by decide +kernel
theorem dX9_end_10 : decode cX9_end 10 = .ok (.aload_n 0, 1) := by decide +kernel
theorem dX9_end_11 : decode cX9_end 11 = .ok (.getfield 9, 3) := by decide +kernel
theorem dX9_end_14 : decode cX9_end 14 = .ok (.iconst 0, 1) := by decide +kernel
theorem dX9_end_15 : decode cX9_end 15 = .ok (.invokestatic 29, 3) := by decide +kernel
theorem dX9_end_18 : decode cX9_end 18 = .ok (.aload_n 0, 1) := by decide +kernel
theorem dX9_end_19 : decode cX9_end 19 = .ok (.getfield 18, 3) := by decide +kernel
theorem dX9_end_22 : decode cX9_end 22 = .ok (.invokevirtual 35, 3) := by decide +kernel
theorem dX9_end_25 : decode cX9_end 25 = .ok (.return_, 1) := by decide +kernel
set_option maxRecDepth 20000 in
theorem ggX9_startNext_X1_placesLeft : GoodIn wsX9_startNext wsX1_placesLeft := goodIn_r _ [9, 10, 11, 44, 45, 46, 47, 48, 49] (by decide +kernel) (by decide +kernel)
set_option maxRecDepth 20000 in
theorem gX9_startNext_X1_placesLeft : GoodIn wsX9_startNext (wsV RX9 38 RX1 yX1_placesLeft wsX1_placesLeft) := goodIn_app (goodIn_of _ (by decide +kernel)) ggX9_startNext_X1_placesLeft
set_option maxRecDepth 20000 in
theorem ggX9_startNext_X1_isTied : GoodIn wsX9_startNext wsX1_isTied := goodIn_r _ [15, 16, 17, 18, 19, 8, 20, 11, 21, 10, 22, 23, 24, 25, 26, 27, 28, 29, 44, 45, 46, 47, 48, 49] (by decide +kernel) (by decide +kernel)
set_option maxRecDepth 20000 in
theorem gX9_startNext_X1_isTied : GoodIn wsX9_startNext (wsV RX9 44 RX1 yX1_isTied wsX1_isTied) := goodIn_app (goodIn_of _ (by decide +kernel)) ggX9_startNext_X1_isTied
set_option maxRecDepth 20000 in
theorem ggX9_startNext_X6_wipe : GoodIn wsX9_startNext wsX6_wipe := goodIn_r _ [34, 35, 36, 37, 38, 39, 50] (by decide +kernel) (by decide +kernel)
set_option maxRecDepth 20000 in
theorem gX9_startNext_X6_wipe : GoodIn wsX9_startNext (wsV RX9 35 RX6 yX6_wipe wsX6_wipe) := goodIn_app (goodIn_of _ (by decide +kernel)) ggX9_startNext_X6_wipe
theorem dX9_startNext_0 : decode cX9_startNext 0 = .ok (.aload_n 0, 1) := by decide +kernel
theorem dX9_startNext_1 : decode cX9_startNext 1 = .ok (.dup, 1) := by decide +kernel
theorem dX9_startNext_2 : decode cX9_startNext 2 = .ok (.getfield 22, 3) := by decide +kernel
theorem dX9_startNext_5 : decode cX9_startNext 5 = .ok (.iconst 1, 1) := by decide +kernel
theorem dX9_startNext_6 : decode cX9_startNext 6 = .ok (.iadd, 1) := by decide +kernel
theorem dX9_startNext_7 : decode cX9_startNext 7 = .ok (.putfield 22, 3) := by decide +kernel
theorem dX9_startNext_10 : decode cX9_startNext 10 = .ok (.aload_n 0, 1) := by decide +kernel
theorem dX9_startNext_11 : decode cX9_startNext 11 = .ok (.aload_n 1, 1) := by decide +kernel
theorem dX9_startNext_12 : decode cX9_startNext 12 = .ok (.invokevirtual 38, 3) := by decide +kernel
theorem dX9_startNext_15 : decode cX9_startNext 15 = .ok (.putfield 26, 3) := by decide +kernel
theorem dX9_startNext_18 : decode cX9_startNext 18 = .ok (.iconst 0, 1) := by decide +kernel
theorem dX9_startNext_19 : decode cX9_startNext 19 = .ok (.istore_n 2, 1) := by decide +kernel
theorem dX9_startNext_20 : decode cX9_startNext 20 = .ok (.iload_n 2, 1) := by decide +kernel
theorem dX9_startNext_21 : decode cX9_startNext 21 = .ok (.bipush 12, 2) := by decide +kernel
theorem dX9_startNext_23 : decode cX9_startNext 23 = .ok (.if_icmp .ge 28, 3) := by decide +kernel
theorem dX9_startNext_26 : decode cX9_startNext 26 = .ok (.aload_n 0, 1) := by decide +kernel
theorem dX9_startNext_27 : decode cX9_startNext 27 = .ok (.getfield 9, 3) := by decide +kernel
theorem dX9_startNext_30 : decode cX9_startNext 30 = .ok (.iload_n 2, 1) := by decide +kernel
theorem dX9_startNext_31 : decode cX9_startNext 31 = .ok (.aload_n 1, 1) := by decide +kernel
theorem dX9_startNext_32 : decode cX9_startNext 32 = .ok (.iload_n 2, 1) := by decide +kernel
theorem dX9_startNext_33 : decode cX9_startNext 33 = .ok (.invokevirtual 44, 3) := by decide +kernel
theorem dX9_startNext_36 : decode cX9_startNext 36 = .ok (.ifCond .eq 7, 3) := by decide +kernel
theorem dX9_startNext_39 : decode cX9_startNext 39 = .ok (.iconst 1, 1) := by decide +kernel
theorem dX9_startNext_40 : decode cX9_startNext 40 = .ok (.goto 4, 3) := by decide +kernel
theorem dX9_startNext_43 : decode cX9_startNext 43 = .ok (.iconst 0, 1) := by decide +kernel
theorem dX9_startNext_44 : decode cX9_startNext 44 = .ok (.iastore, 1) := by decide +kernel
theorem dX9_startNext_45 : decode cX9_startNext 45 = .ok (.iinc 2 1, 3) := by decide +kernel
theorem dX9_startNext_48 : decode cX9_startNext 48 = .ok (.goto (-28), 3) := by decide +kernel
theorem dX9_startNext_51 : decode cX9_startNext 51 = .ok (.aload_n 0, 1) := by decide +kernel
theorem dX9_startNext_52 : decode cX9_startNext 52 = .ok (.getfield 18, 3) := by decide +kernel
theorem dX9_startNext_55 : decode cX9_startNext 55 = .ok (.invokevirtual 35, 3) := by decide +kernel
theorem dX9_startNext_58 : decode cX9_startNext 58 = .ok (.return_, 1) := by decide +kernel
set_option maxRecDepth 20000 in
theorem ggX9_has_X11_isBetween : GoodIn wsX9_has wsX11_isBetween := goodIn_r _ [4] (by decide +kernel) (by decide +kernel)
set_option maxRecDepth 20000 in
theorem gX9_has_X11_isBetween_n48 : GoodIn wsX9_has (wsX11_isBetween) := ggX9_has_X11_isBetween
theorem dX9_has_0 : decode cX9_has 0 = .ok (.iload_n 1, 1) := by decide +kernel
theorem dX9_has_1 : decode cX9_has 1 = .ok (.iconst 0, 1) := by decide +kernel
theorem dX9_has_2 : decode cX9_has 2 = .ok (.bipush 11, 2) := by decide +kernel
theorem dX9_has_4 : decode cX9_has 4 = .ok (.invokestatic 48, 3) := by decide +kernel
theorem dX9_has_7 : decode cX9_has 7 = .ok (.ifCond .eq 17, 3) := by decide +kernel
theorem dX9_has_10 : decode cX9_has 10 = .ok (.aload_n 0, 1) := by decide +kernel
theorem dX9_has_11 : decode cX9_has 11 = .ok (.getfield 9, 3) := by decide +kernel
theorem dX9_has_14 : decode cX9_has 14 = .ok (.iload_n 1, 1) := by decide +kernel
theorem dX9_has_15 : decode cX9_has 15 = .ok (.iaload, 1) := by decide +kernel
theorem dX9_has_16 : decode cX9_has 16 = .ok (.iconst 1, 1) := by decide +kernel
theorem dX9_has_17 : decode cX9_has 17 = .ok (.if_icmp .ne 7, 3) := by decide +kernel
theorem dX9_has_20 : decode cX9_has 20 = .ok (.iconst 1, 1) := by decide +kernel
theorem dX9_has_21 : decode cX9_has 21 = .ok (.goto 4, 3) := by decide +kernel
theorem dX9_has_24 : decode cX9_has 24 = .ok (.iconst 0, 1) := by decide +kernel
theorem dX9_has_25 : decode cX9_has 25 = .ok (.ireturn, 1) := by decide +kernel
theorem dX9_count_0 : decode cX9_count 0 = .ok (.iconst 0, 1) := by decide +kernel
theorem dX9_count_1 : decode cX9_count 1 = .ok (.istore_n 1, 1) := by decide +kernel
theorem dX9_count_2 : decode cX9_count 2 = .ok (.aload_n 0, 1) := by decide +kernel
theorem dX9_count_3 : decode cX9_count 3 = .ok (.getfield 9, 3) := by decide +kernel
theorem dX9_count_6 : decode cX9_count 6 = .ok (.astore_n 2, 1) := by decide +kernel
theorem dX9_count_7 : decode cX9_count 7 = .ok (.aload_n 2, 1) := by decide +kernel
theorem dX9_count_8 : decode cX9_count 8 = .ok (.arraylength, 1) := by decide +kernel
theorem dX9_count_9 : decode cX9_count 9 = .ok (.istore_n 3, 1) := by decide +kernel
theorem dX9_count_10 : decode cX9_count 10 = .ok (.iconst 0, 1) := by decide +kernel
theorem dX9_count_11 : decode cX9_count 11 = .ok (.istore 4, 2) := by decide +kernel
theorem dX9_count_13 : decode cX9_count 13 = .ok (.iload 4, 2) := by decide +kernel
theorem dX9_count_15 : decode cX9_count 15 = .ok (.iload_n 3, 1) := by decide +kernel
theorem dX9_count_16 : decode cX9_count 16 = .ok (.if_icmp .ge 20, 3) := by decide +kernel
theorem dX9_count_19 : decode cX9_count 19 = .ok (.aload_n 2, 1) := by decide +kernel
theorem dX9_count_20 : decode cX9_count 20 = .ok (.iload 4, 2) := by decide +kernel
theorem dX9_count_22 : decode cX9_count 22 = .ok (.iaload, 1) := by decide +kernel
theorem dX9_count_23 : decode cX9_count 23 = .ok (.istore 5, 2) := by decide +kernel
theorem dX9_count_25 : decode cX9_count 25 = .ok (.iload_n 1, 1) := by decide +kernel
theorem dX9_count_26 : decode cX9_count 26 = .ok (.iload 5, 2) := by decide +kernel
theorem dX9_count_28 : decode cX9_count 28 = .ok (.iadd, 1) := by decide +kernel
theorem dX9_count_29 : decode cX9_count 29 = .ok (.istore_n 1, 1) := by decide +kernel
theorem dX9_count_30 : decode cX9_count 30 = .ok (.iinc 4 1, 3) := by decide +kernel
theorem dX9_count_33 : decode cX9_count 33 = .ok (.goto (-20), 3) := by decide +kernel
theorem dX9_count_36 : decode cX9_count 36 = .ok (.iload_n 1, 1) := by decide +kernel
theorem dX9_count_37 : decode cX9_count 37 = .ok (.ireturn, 1) := by decide +kernel
set_option maxRecDepth 20000 in
theorem ggX9_copyFrom_X11_copyRow : GoodIn wsX9_copyFrom wsX11_copyRow := goodIn_r _ [7, 8, 9, 10, 11, 12, 13, 14, 15] (by decide +kernel) (by decide +kernel)
set_option maxRecDepth 20000 in
theorem gX9_copyFrom_X11_copyRow_n52 : GoodIn wsX9_copyFrom (wsX11_copyRow) := ggX9_copyFrom_X11_copyRow
set_option maxRecDepth 20000 in
theorem ggX9_copyFrom_X6_copyFrom : GoodIn wsX9_copyFrom wsX6_copyFrom := goodIn_r _ [20, 21, 22, 6, 23, 8, 9, 10, 11, 12, 13, 14, 15, 28] (by decide +kernel) (by decide +kernel)
set_option maxRecDepth 20000 in
theorem gX9_copyFrom_X6_copyFrom : GoodIn wsX9_copyFrom (wsV RX9 56 RX6 yX6_copyFrom wsX6_copyFrom) := goodIn_app (goodIn_of _ (by decide +kernel)) ggX9_copyFrom_X6_copyFrom
theorem dX9_copyFrom_0 : decode cX9_copyFrom 0 = .ok (.aload_n 0, 1) := by decide +kernel
theorem dX9_copyFrom_1 : decode cX9_copyFrom 1 = .ok (.aload_n 1, 1) := by decide +kernel
theorem dX9_copyFrom_2 : decode cX9_copyFrom 2 = .ok (.getfield 22, 3) := by decide +kernel
theorem dX9_copyFrom_5 : decode cX9_copyFrom 5 = .ok (.putfield 22, 3) := by decide +kernel
theorem dX9_copyFrom_8 : decode cX9_copyFrom 8 = .ok (.aload_n 0, 1) := by decide +kernel
theorem dX9_copyFrom_9 : decode cX9_copyFrom 9 = .ok (.aload_n 1, 1) := by decide +kernel
theorem dX9_copyFrom_10 : decode cX9_copyFrom 10 = .ok (.getfield 26, 3) := by decide +kernel
theorem dX9_copyFrom_13 : decode cX9_copyFrom 13 = .ok (.putfield 26, 3) := by decide +kernel
theorem dX9_copyFrom_16 : decode cX9_copyFrom 16 = .ok (.aload_n 1, 1) := by decide +kernel
theorem dX9_copyFrom_17 : decode cX9_copyFrom 17 = .ok (.getfield 9, 3) := by decide +kernel
theorem dX9_copyFrom_20 : decode cX9_copyFrom 20 = .ok (.aload_n 0, 1) := by decide +kernel
theorem dX9_copyFrom_21 : decode cX9_copyFrom 21 = .ok (.getfield 9, 3) := by decide +kernel
theorem dX9_copyFrom_24 : decode cX9_copyFrom 24 = .ok (.invokestatic 52, 3) := by decide +kernel
theorem dX9_copyFrom_27 : decode cX9_copyFrom 27 = .ok (.aload_n 0, 1) := by decide +kernel
theorem dX9_copyFrom_28 : decode cX9_copyFrom 28 = .ok (.getfield 18, 3) := by decide +kernel
theorem dX9_copyFrom_31 : decode cX9_copyFrom 31 = .ok (.aload_n 1, 1) := by decide +kernel
theorem dX9_copyFrom_32 : decode cX9_copyFrom 32 = .ok (.getfield 18, 3) := by decide +kernel
theorem dX9_copyFrom_35 : decode cX9_copyFrom 35 = .ok (.invokevirtual 56, 3) := by decide +kernel
theorem dX9_copyFrom_38 : decode cX9_copyFrom 38 = .ok (.return_, 1) := by decide +kernel
theorem dX10_init_0 : decode cX10_init 0 = .ok (.aload_n 0, 1) := by decide +kernel
theorem dX10_init_1 : decode cX10_init 1 = .ok (.invokespecial 3, 3) := by decide +kernel
theorem dX10_init_4 : decode cX10_init 4 = .ok (.aload_n 0, 1) := by decide +kernel
theorem dX10_init_5 : decode cX10_init 5 = .ok (.bipush 30, 2) := by decide +kernel
theorem dX10_init_7 : decode cX10_init 7 = .ok (.newarray .int, 2) := by decide +kernel
theorem dX10_init_9 : decode cX10_init 9 = .ok (.putfield 9, 3) := by decide +kernel
theorem dX10_init_12 : decode cX10_init 12 = .ok (.aload_n 0, 1) := by decide +kernel
theorem dX10_init_13 : decode cX10_init 13 = .ok (.bipush 30, 2) := by decide +kernel
theorem dX10_init_15 : decode cX10_init 15 = .ok (.newarray .int, 2) := by decide +kernel
theorem dX10_init_17 : decode cX10_init 17 = .ok (.putfield 15, 3) := by decide +kernel
theorem dX10_init_20 : decode cX10_init 20 = .ok (.aload_n 0, 1) := by decide +kernel
theorem dX10_init_21 : decode cX10_init 21 = .ok (.bipush 30, 2) := by decide +kernel
theorem dX10_init_23 : decode cX10_init 23 = .ok (.newarray .int, 2) := by decide +kernel
theorem dX10_init_25 : decode cX10_init 25 = .ok (.putfield 18, 3) := by decide +kernel
theorem dX10_init_28 : decode cX10_init 28 = .ok (.return_, 1) := by decide +kernel
theorem dX10_has_0 : decode cX10_has 0 = .ok (.iload_n 1, 1) := by decide +kernel
theorem dX10_has_1 : decode cX10_has 1 = .ok (.ifCond .lt 21, 3) := by decide +kernel
theorem dX10_has_4 : decode cX10_has 4 = .ok (.iload_n 1, 1) := by decide +kernel
theorem dX10_has_5 : decode cX10_has 5 = .ok (.aload_n 0, 1) := by decide +kernel
theorem dX10_has_6 : decode cX10_has 6 = .ok (.getfield 21, 3) := by decide +kernel
theorem dX10_has_9 : decode cX10_has 9 = .ok (.if_icmp .ge 13, 3) := by decide +kernel
theorem dX10_has_12 : decode cX10_has 12 = .ok (.iload_n 1, 1) := by decide +kernel
theorem dX10_has_13 : decode cX10_has 13 = .ok (.bipush 30, 2) := by decide +kernel
theorem dX10_has_15 : decode cX10_has 15 = .ok (.if_icmp .ge 7, 3) := by decide +kernel
theorem dX10_has_18 : decode cX10_has 18 = .ok (.iconst 1, 1) := by decide +kernel
theorem dX10_has_19 : decode cX10_has 19 = .ok (.goto 4, 3) := by decide +kernel
theorem dX10_has_22 : decode cX10_has 22 = .ok (.iconst 0, 1) := by decide +kernel
theorem dX10_has_23 : decode cX10_has 23 = .ok (.ireturn, 1) := by decide +kernel
theorem dX10_append_0 : decode cX10_append 0 = .ok (.aload_n 0, 1) := by decide +kernel
theorem dX10_append_1 : decode cX10_append 1 = .ok (.getfield 21, 3) := by decide +kernel
theorem dX10_append_4 : decode cX10_append 4 = .ok (.bipush 30, 2) := by decide +kernel
theorem dX10_append_6 : decode cX10_append 6 = .ok (.if_icmp .lt 5, 3) := by decide +kernel
theorem dX10_append_9 : decode cX10_append 9 = .ok (.iconst (-1), 1) := by decide +kernel
theorem dX10_append_10 : decode cX10_append 10 = .ok (.ireturn, 1) := by decide +kernel
theorem dX10_append_11 : decode cX10_append 11 = .ok (.aload_n 0, 1) := by decide +kernel
theorem dX10_append_12 : decode cX10_append 12 = .ok (.getfield 21, 3) := by decide +kernel
theorem dX10_append_15 : decode cX10_append 15 = .ok (.istore 4, 2) := by decide +kernel
theorem dX10_append_17 : decode cX10_append 17 = .ok (.aload_n 0, 1) := by decide +kernel
theorem dX10_append_18 : decode cX10_append 18 = .ok (.getfield 9, 3) := by decide +kernel
theorem dX10_append_21 : decode cX10_append 21 = .ok (.iload 4, 2) := by decide +kernel
theorem dX10_append_23 : decode cX10_append 23 = .ok (.iload_n 1, 1) := by decide +kernel
theorem dX10_append_24 : decode cX10_append 24 = .ok (.iastore, 1) := by decide +kernel
theorem dX10_append_25 : decode cX10_append 25 = .ok (.aload_n 0, 1) := by decide +kernel
theorem dX10_append_26 : decode cX10_append 26 = .ok (.getfield 15, 3) := by decide +kernel
theorem dX10_append_29 : decode cX10_append 29 = .ok (.iload 4, 2) := by decide +kernel
theorem dX10_append_31 : decode cX10_append 31 = .ok (.iload_n 2, 1) := by decide +kernel
theorem dX10_append_32 : decode cX10_append 32 = .ok (.iastore, 1) := by decide +kernel
theorem dX10_append_33 : decode cX10_append 33 = .ok (.aload_n 0, 1) := by decide +kernel
theorem dX10_append_34 : decode cX10_append 34 = .ok (.getfield 18, 3) := by decide +kernel
theorem dX10_append_37 : decode cX10_append 37 = .ok (.iload 4, 2) := by decide +kernel
theorem dX10_append_39 : decode cX10_append 39 = .ok (.iload_n 3, 1) := by decide +kernel
theorem dX10_append_40 : decode cX10_append 40 = .ok (.iastore, 1) := by decide +kernel
theorem dX10_append_41 : decode cX10_append 41 = .ok (.aload_n 0, 1) := by decide +kernel
theorem dX10_append_42 : decode cX10_append 42 = .ok (.iload 4, 2) := by decide +kernel
theorem dX10_append_44 : decode cX10_append 44 = .ok (.iconst 1, 1) := by decide +kernel
theorem dX10_append_45 : decode cX10_append 45 = .ok (.iadd, 1) := by decide +kernel
theorem dX10_append_46 : decode cX10_append 46 = .ok (.putfield 21, 3) := by decide +kernel
theorem dX10_append_49 : decode cX10_append 49 = .ok (.iload 4, 2) := by decide +kernel
theorem dX10_append_51 : decode cX10_append 51 = .ok (.ireturn, 1) := by decide +kernel
set_option maxRecDepth 20000 in
theorem ggX10_composerOf_X10_has : GoodIn wsX10_composerOf wsX10_has := goodIn_r _ [6, 7, 8, 9, 10, 11] (by decide +kernel) (by decide +kernel)
set_option maxRecDepth 20000 in
theorem gX10_composerOf_X10_has : GoodIn wsX10_composerOf (wsV RX10 25 RX10 yX10_has wsX10_has) := goodIn_app (goodIn_of _ (by decide +kernel)) ggX10_composerOf_X10_has
theorem dX10_composerOf_0 : decode cX10_composerOf 0 = .ok (.aload_n 0, 1) := by decide +kernel
theorem dX10_composerOf_1 : decode cX10_composerOf 1 = .ok (.iload_n 1, 1) := by decide +kernel
theorem dX10_composerOf_2 : decode cX10_composerOf 2 = .ok (.invokevirtual 25, 3) := by decide +kernel
theorem dX10_composerOf_5 : decode cX10_composerOf 5 = .ok (.ifCond .eq 12, 3) := by decide +kernel
theorem dX10_composerOf_8 : decode cX10_composerOf 8 = .ok (.aload_n 0, 1) := by decide +kernel
theorem dX10_composerOf_9 : decode cX10_composerOf 9 = .ok (.getfield 9, 3) := by decide +kernel
theorem dX10_composerOf_12 : decode cX10_composerOf 12 = .ok (.iload_n 1, 1) := by decide +kernel
theorem dX10_composerOf_13 : decode cX10_composerOf 13 = .ok (.iaload, 1) := by decide +kernel
theorem dX10_composerOf_14 : decode cX10_composerOf 14 = .ok (.goto 4, 3) := by decide +kernel
theorem dX10_composerOf_17 : decode cX10_composerOf 17 = .ok (.iconst (-1), 1) := by decide +kernel
theorem dX10_composerOf_18 : decode cX10_composerOf 18 = .ok (.ireturn, 1) := by decide +kernel
set_option maxRecDepth 20000 in
theorem ggX10_eraOf_X10_has : GoodIn wsX10_eraOf wsX10_has := goodIn_r _ [6, 7, 8, 9, 10, 11] (by decide +kernel) (by decide +kernel)
set_option maxRecDepth 20000 in
theorem gX10_eraOf_X10_has : GoodIn wsX10_eraOf (wsV RX10 25 RX10 yX10_has wsX10_has) := goodIn_app (goodIn_of _ (by decide +kernel)) ggX10_eraOf_X10_has
theorem dX10_eraOf_0 : decode cX10_eraOf 0 = .ok (.aload_n 0, 1) := by decide +kernel
theorem dX10_eraOf_1 : decode cX10_eraOf 1 = .ok (.iload_n 1, 1) := by decide +kernel
theorem dX10_eraOf_2 : decode cX10_eraOf 2 = .ok (.invokevirtual 25, 3) := by decide +kernel
theorem dX10_eraOf_5 : decode cX10_eraOf 5 = .ok (.ifCond .eq 12, 3) := by decide +kernel
theorem dX10_eraOf_8 : decode cX10_eraOf 8 = .ok (.aload_n 0, 1) := by decide +kernel
theorem dX10_eraOf_9 : decode cX10_eraOf 9 = .ok (.getfield 15, 3) := by decide +kernel
theorem dX10_eraOf_12 : decode cX10_eraOf 12 = .ok (.iload_n 1, 1) := by decide +kernel
theorem dX10_eraOf_13 : decode cX10_eraOf 13 = .ok (.iaload, 1) := by decide +kernel
theorem dX10_eraOf_14 : decode cX10_eraOf 14 = .ok (.goto 4, 3) := by decide +kernel
theorem dX10_eraOf_17 : decode cX10_eraOf 17 = .ok (.iconst (-1), 1) := by decide +kernel
theorem dX10_eraOf_18 : decode cX10_eraOf 18 = .ok (.ireturn, 1) := by decide +kernel
set_option maxRecDepth 20000 in
theorem ggX10_minutesOf_X10_has : GoodIn wsX10_minutesOf wsX10_has := goodIn_r _ [6, 7, 8, 9, 10, 11] (by decide +kernel) (by decide +kernel)
set_option maxRecDepth 20000 in
theorem gX10_minutesOf_X10_has : GoodIn wsX10_minutesOf (wsV RX10 25 RX10 yX10_has wsX10_has) := goodIn_app (goodIn_of _ (by decide +kernel)) ggX10_minutesOf_X10_has
theorem dX10_minutesOf_0 : decode cX10_minutesOf 0 = .ok (.aload_n 0, 1) := by decide +kernel
theorem dX10_minutesOf_1 : decode cX10_minutesOf 1 = .ok (.iload_n 1, 1) := by decide +kernel
theorem dX10_minutesOf_2 : decode cX10_minutesOf 2 = .ok (.invokevirtual 25, 3) := by decide +kernel
theorem dX10_minutesOf_5 : decode cX10_minutesOf 5 = .ok (.ifCond .eq 12, 3) := by decide +kernel
theorem dX10_minutesOf_8 : decode cX10_minutesOf 8 = .ok (.aload_n 0, 1) := by decide +kernel
theorem dX10_minutesOf_9 : decode cX10_minutesOf 9 = .ok (.getfield 18, 3) := by decide +kernel
theorem dX10_minutesOf_12 : decode cX10_minutesOf 12 = .ok (.iload_n 1, 1) := by decide +kernel
theorem dX10_minutesOf_13 : decode cX10_minutesOf 13 = .ok (.iaload, 1) := by decide +kernel
theorem dX10_minutesOf_14 : decode cX10_minutesOf 14 = .ok (.goto 4, 3) := by decide +kernel
theorem dX10_minutesOf_17 : decode cX10_minutesOf 17 = .ok (.iconst 0, 1) := by decide +kernel
theorem dX10_minutesOf_18 : decode cX10_minutesOf 18 = .ok (.ireturn, 1) := by decide +kernel
set_option maxRecDepth 20000 in
theorem ggX10_fact_X10_composerOf : GoodIn wsX10_fact wsX10_composerOf := goodIn_r _ [5, 6, 7, 8, 9, 4, 10, 11, 22, 23, 24, 25] (by decide +kernel) (by decide +kernel)
set_option maxRecDepth 20000 in
theorem gX10_fact_X10_composerOf : GoodIn wsX10_fact (wsV RX10 29 RX10 yX10_composerOf wsX10_composerOf) := goodIn_app (goodIn_of _ (by decide +kernel)) ggX10_fact_X10_composerOf
set_option maxRecDepth 20000 in
theorem ggX10_fact_X10_eraOf : GoodIn wsX10_fact wsX10_eraOf := goodIn_r _ [15, 16, 7, 8, 9, 4, 10, 11, 22, 23, 24, 25] (by decide +kernel) (by decide +kernel)
set_option maxRecDepth 20000 in
theorem gX10_fact_X10_eraOf : GoodIn wsX10_fact (wsV RX10 33 RX10 yX10_eraOf wsX10_eraOf) := goodIn_app (goodIn_of _ (by decide +kernel)) ggX10_fact_X10_eraOf
set_option maxRecDepth 20000 in
theorem ggX10_fact_X10_minutesOf : GoodIn wsX10_fact wsX10_minutesOf := goodIn_r _ [20, 21, 7, 8, 9, 4, 10, 11, 22, 23, 24, 25] (by decide +kernel) (by decide +kernel)
set_option maxRecDepth 20000 in
theorem gX10_fact_X10_minutesOf : GoodIn wsX10_fact (wsV RX10 36 RX10 yX10_minutesOf wsX10_minutesOf) := goodIn_app (goodIn_of _ (by decide +kernel)) ggX10_fact_X10_minutesOf
theorem dX10_fact_0 : decode cX10_fact 0 = .ok (.iload_n 2, 1) := by decide +kernel
theorem dX10_fact_1 : decode cX10_fact 1 = .ok (.lookupswitch 39 #[(0, 27), (1, 33)], 27) := by decide +kernel
theorem dX10_fact_28 : decode cX10_fact 28 = .ok (.aload_n 0, 1) := by decide +kernel
theorem dX10_fact_29 : decode cX10_fact 29 = .ok (.iload_n 1, 1) := by decide +kernel
theorem dX10_fact_30 : decode cX10_fact 30 = .ok (.invokevirtual 29, 3) := by decide +kernel
theorem dX10_fact_33 : decode cX10_fact 33 = .ok (.ireturn, 1) := by decide +kernel
theorem dX10_fact_34 : decode cX10_fact 34 = .ok (.aload_n 0, 1) := by decide +kernel
theorem dX10_fact_35 : decode cX10_fact 35 = .ok (.iload_n 1, 1) := by decide +kernel
theorem dX10_fact_36 : decode cX10_fact 36 = .ok (.invokevirtual 33, 3) := by decide +kernel
theorem dX10_fact_39 : decode cX10_fact 39 = .ok (.ireturn, 1) := by decide +kernel
theorem dX10_fact_40 : decode cX10_fact 40 = .ok (.aload_n 0, 1) := by decide +kernel
theorem dX10_fact_41 : decode cX10_fact 41 = .ok (.iload_n 1, 1) := by decide +kernel
theorem dX10_fact_42 : decode cX10_fact 42 = .ok (.invokevirtual 36, 3) := by decide +kernel
theorem dX10_fact_45 : decode cX10_fact 45 = .ok (.ireturn, 1) := by decide +kernel
set_option maxRecDepth 20000 in
theorem ggX10_copyFrom_X11_copyRow : GoodIn wsX10_copyFrom wsX11_copyRow := goodIn_r _ [7, 8, 9, 10, 11, 12, 13, 14, 15] (by decide +kernel) (by decide +kernel)
set_option maxRecDepth 20000 in
theorem gX10_copyFrom_X11_copyRow_n39 : GoodIn wsX10_copyFrom (wsX11_copyRow) := ggX10_copyFrom_X11_copyRow
theorem dX10_copyFrom_0 : decode cX10_copyFrom 0 = .ok (.aload_n 0, 1) := by decide +kernel
theorem dX10_copyFrom_1 : decode cX10_copyFrom 1 = .ok (.aload_n 1, 1) := by decide +kernel
theorem dX10_copyFrom_2 : decode cX10_copyFrom 2 = .ok (.getfield 21, 3) := by decide +kernel
theorem dX10_copyFrom_5 : decode cX10_copyFrom 5 = .ok (.putfield 21, 3) := by decide +kernel
theorem dX10_copyFrom_8 : decode cX10_copyFrom 8 = .ok (.aload_n 1, 1) := by decide +kernel
theorem dX10_copyFrom_9 : decode cX10_copyFrom 9 = .ok (.getfield 9, 3) := by decide +kernel
theorem dX10_copyFrom_12 : decode cX10_copyFrom 12 = .ok (.aload_n 0, 1) := by decide +kernel
theorem dX10_copyFrom_13 : decode cX10_copyFrom 13 = .ok (.getfield 9, 3) := by decide +kernel
theorem dX10_copyFrom_16 : decode cX10_copyFrom 16 = .ok (.invokestatic 39, 3) := by decide +kernel
theorem dX10_copyFrom_19 : decode cX10_copyFrom 19 = .ok (.aload_n 1, 1) := by decide +kernel
theorem dX10_copyFrom_20 : decode cX10_copyFrom 20 = .ok (.getfield 15, 3) := by decide +kernel
theorem dX10_copyFrom_23 : decode cX10_copyFrom 23 = .ok (.aload_n 0, 1) := by decide +kernel
theorem dX10_copyFrom_24 : decode cX10_copyFrom 24 = .ok (.getfield 15, 3) := by decide +kernel
theorem dX10_copyFrom_27 : decode cX10_copyFrom 27 = .ok (.invokestatic 39, 3) := by decide +kernel
theorem dX10_copyFrom_30 : decode cX10_copyFrom 30 = .ok (.aload_n 1, 1) := by decide +kernel
theorem dX10_copyFrom_31 : decode cX10_copyFrom 31 = .ok (.getfield 18, 3) := by decide +kernel
theorem dX10_copyFrom_34 : decode cX10_copyFrom 34 = .ok (.aload_n 0, 1) := by decide +kernel
theorem dX10_copyFrom_35 : decode cX10_copyFrom 35 = .ok (.getfield 18, 3) := by decide +kernel
theorem dX10_copyFrom_38 : decode cX10_copyFrom 38 = .ok (.invokestatic 39, 3) := by decide +kernel
theorem dX10_copyFrom_41 : decode cX10_copyFrom 41 = .ok (.return_, 1) := by decide +kernel
set_option maxRecDepth 20000 in
theorem ggX11_init_X0_init : GoodIn wsX11_init wsX0_init := goodIn_r _ [18, 19, 2, 3, 20, 21, 22, 23, 24, 25, 26, 27, 28, 29, 30, 31, 32, 33, 34, 35, 36, 37, 38, 39, 40, 41, 42, 43, 44, 45, 46, 47, 48, 49, 50, 51, 52, 53, 54, 55, 56, 57, 58, 59, 60, 61, 62, 63, 64, 65, 66, 67, 68, 69, 70, 71, 72, 73, 74, 75, 76, 77, 78, 79, 80, 81, 82, 83, 84, 85, 86, 87, 88, 89, 90, 91, 92, 93, 94, 95, 96, 97, 98, 99, 100, 101, 102, 103, 104, 105, 106, 107, 108, 109, 110, 111, 112, 113, 114, 115, 116, 117, 118, 119, 120, 121, 122, 123, 124, 125, 126, 127, 128, 129, 130, 144, 145, 146, 147, 148, 149, 150, 151, 152, 153, 154, 155, 156, 157, 168, 169, 170, 171, 172, 173, 174, 175, 176, 177, 178, 179, 180, 181, 182, 183, 184, 185, 186, 187, 188, 189, 190, 191, 192] (by decide +kernel) (by decide +kernel)
set_option maxRecDepth 20000 in
theorem gX11_init_X0_init : GoodIn wsX11_init (wsX0_init) := ggX11_init_X0_init
set_option maxRecDepth 20000 in
theorem ggX11_init_X5_init : GoodIn wsX11_init wsX5_init := goodIn_r _ [133, 134, 2, 3, 135, 136, 5, 6, 137, 17, 18, 19, 20, 21, 22, 23, 24, 25, 26, 27, 28, 29, 30, 31, 32, 33, 34, 35, 36, 37, 38, 39, 40, 41, 42, 43, 44, 45, 46, 47, 48, 49, 50, 51, 52, 53, 54, 55, 56, 57, 58, 59, 60, 61, 62, 63, 64, 65, 66, 67, 68, 69, 70, 71, 72, 73, 74, 75, 76, 77, 78, 79, 80, 81, 82, 83, 84, 85, 86, 87, 88, 89, 90, 91, 92, 93, 94, 95, 96, 97, 98, 99, 100, 101, 102, 103, 104, 105, 106, 107, 108, 109, 110, 111, 112, 113, 114, 115, 116, 117, 118, 119, 120, 121, 122, 123, 124, 125, 126, 127, 128, 129, 130, 161, 162, 144, 145, 146, 147, 148, 149, 150, 151, 152, 153, 154, 155, 156, 157, 168, 169, 170, 171, 172, 173, 174, 175, 176, 177, 178, 179, 180, 181, 182, 183, 184, 185, 186, 187, 188, 189, 190, 191, 192] (by decide +kernel) (by decide +kernel)
set_option maxRecDepth 20000 in
theorem gX11_init_X5_init : GoodIn wsX11_init (wsX5_init) := ggX11_init_X5_init
set_option maxRecDepth 20000 in
theorem ggX11_init_X8_init : GoodIn wsX11_init wsX8_init := goodIn_r _ [139, 140, 2, 3, 32, 141, 142, 143, 163, 164, 165, 166, 167] (by decide +kernel) (by decide +kernel)
set_option maxRecDepth 20000 in
theorem gX11_init_X8_init_n25 : GoodIn wsX11_init (wsX8_init) := ggX11_init_X8_init
theorem dX11_init_0 : decode cX11_init 0 = .ok (.aload_n 0, 1) := by decide +kernel
theorem dX11_init_1 : decode cX11_init 1 = .ok (.invokespecial 1, 3) := by decide +kernel
theorem dX11_init_4 : decode cX11_init 4 = .ok (.aload_n 0, 1) := by decide +kernel
theorem dX11_init_5 : decode cX11_init 5 = .ok (.new 7, 3) := by decide +kernel
theorem dX11_init_8 : decode cX11_init 8 = .ok (.dup, 1) := by decide +kernel
theorem dX11_init_9 : decode cX11_init 9 = .ok (.invokespecial 9, 3) := by decide +kernel
theorem dX11_init_12 : decode cX11_init 12 = .ok (.putfield 10, 3) := by decide +kernel
theorem dX11_init_15 : decode cX11_init 15 = .ok (.aload_n 0, 1) := by decide +kernel
theorem dX11_init_16 : decode cX11_init 16 = .ok (.new 16, 3) := by decide +kernel
theorem dX11_init_19 : decode cX11_init 19 = .ok (.dup, 1) := by decide +kernel
theorem dX11_init_20 : decode cX11_init 20 = .ok (.invokespecial 18, 3) := by decide +kernel
theorem dX11_init_23 : decode cX11_init 23 = .ok (.putfield 19, 3) := by decide +kernel
theorem dX11_init_26 : decode cX11_init 26 = .ok (.aload_n 0, 1) := by decide +kernel
theorem dX11_init_27 : decode cX11_init 27 = .ok (.new 23, 3) := by decide +kernel
theorem dX11_init_30 : decode cX11_init 30 = .ok (.dup, 1) := by decide +kernel
theorem dX11_init_31 : decode cX11_init 31 = .ok (.invokespecial 25, 3) := by decide +kernel
theorem dX11_init_34 : decode cX11_init 34 = .ok (.putfield 26, 3) := by decide +kernel
theorem dX11_init_37 : decode cX11_init 37 = .ok (.return_, 1) := by decide +kernel
set_option maxRecDepth 20000 in
theorem ggX11_addWork_X11_isBetween : GoodIn wsX11_addWork wsX11_isBetween := goodIn_r _ [6] (by decide +kernel) (by decide +kernel)
set_option maxRecDepth 20000 in
theorem gX11_addWork_X11_isBetween : GoodIn wsX11_addWork (va_wsS RX11 30 yX11_isBetween wsX11_isBetween) := goodIn_app (goodIn_of _ (by decide +kernel)) ggX11_addWork_X11_isBetween
set_option maxRecDepth 20000 in
theorem ggX11_addWork_X11_requireArgument : GoodIn wsX11_addWork wsX11_requireArgument := goodIn_ca (goodIn_r _ [9, 10, 11] (by decide +kernel) (by decide +kernel)) (goodIn_sub (fun _ h => List.mem_cons_of_mem _ (List.mem_append_left _ (List.mem_append_right _ h))) (by decide +kernel))
set_option maxRecDepth 20000 in
theorem gX11_addWork_X11_requireArgument : GoodIn wsX11_addWork (va_wsS RX11 34 yX11_requireArgument wsX11_requireArgument) := goodIn_app (goodIn_of _ (by decide +kernel)) ggX11_addWork_X11_requireArgument
set_option maxRecDepth 20000 in
theorem ggX11_addWork_X11_requireState : GoodIn wsX11_addWork wsX11_requireState := goodIn_ca (goodIn_r _ [14, 15, 16] (by decide +kernel) (by decide +kernel)) (goodIn_sub (fun _ h => List.mem_cons_of_mem _ (List.mem_append_right _ h)) (by decide +kernel))
set_option maxRecDepth 20000 in
theorem gX11_addWork_X11_requireState : GoodIn wsX11_addWork (va_wsS RX11 51 yX11_requireState wsX11_requireState) := goodIn_app (goodIn_of _ (by decide +kernel)) ggX11_addWork_X11_requireState
set_option maxRecDepth 20000 in
theorem ggX11_addWork_X5_keep : GoodIn wsX11_addWork wsX5_keep := goodIn_r _ [21, 22, 23, 24, 25, 26, 20, 27, 28, 29, 30, 31, 32, 33, 34, 35, 36, 37, 38, 39, 40, 41, 42, 43, 44, 45, 46, 47, 48, 49, 50, 51, 52, 53, 54, 55, 5, 56, 57, 58, 59, 60, 61, 62, 63, 64, 65, 66, 67, 68, 69, 70, 71, 72, 73, 74, 75, 76, 77, 78, 79, 80, 81, 82, 83, 84, 85, 86, 87, 88, 89, 90, 91, 92, 93, 94, 95, 96, 97, 98, 99, 100, 101, 102, 103, 104, 105, 106, 107, 108, 109, 110, 111, 112, 138, 139, 120, 121, 122, 123, 124, 125, 126, 127, 128, 129, 130, 131, 132, 133, 134, 135, 136, 137, 140, 141, 142, 143, 144, 145, 146, 147, 148, 149, 150, 151, 152, 153, 154] (by decide +kernel) (by decide +kernel)
set_option maxRecDepth 20000 in
theorem gX11_addWork_X5_keep : GoodIn wsX11_addWork (wsV RX11 54 RX5 yX5_keep wsX5_keep) := goodIn_app (goodIn_of _ (by decide +kernel)) ggX11_addWork_X5_keep
set_option maxRecDepth 20000 in
theorem ggX11_addWork_X10_append : GoodIn wsX11_addWork wsX10_append := goodIn_r _ [116, 51, 52, 53, 54, 134, 135, 136, 137] (by decide +kernel) (by decide +kernel)
set_option maxRecDepth 20000 in
theorem gX11_addWork_X10_append : GoodIn wsX11_addWork (wsV RX11 58 RX10 yX10_append wsX10_append) := goodIn_app (goodIn_of _ (by decide +kernel)) ggX11_addWork_X10_append
theorem dX11_addWork_0 : decode cX11_addWork 0 = .ok (.iload_n 1, 1) := by decide +kernel
theorem dX11_addWork_1 : decode cX11_addWork 1 = .ok (.iconst 0, 1) := by decide +kernel
theorem dX11_addWork_2 : decode cX11_addWork 2 = .ok (.bipush 9, 2) := by decide +kernel
theorem dX11_addWork_4 : decode cX11_addWork 4 = .ok (.invokestatic 30, 3) := by decide +kernel
theorem dX11_addWork_7 : decode cX11_addWork 7 = .ok (.invokestatic 34, 3) := by decide +kernel
theorem dX11_addWork_10 : decode cX11_addWork 10 = .ok (.iload_n 2, 1) := by decide +kernel
theorem dX11_addWork_11 : decode cX11_addWork 11 = .ok (.iconst 0, 1) := by decide +kernel
theorem dX11_addWork_12 : decode cX11_addWork 12 = .ok (.iconst 4, 1) := by decide +kernel
theorem dX11_addWork_13 : decode cX11_addWork 13 = .ok (.invokestatic 30, 3) := by decide +kernel
theorem dX11_addWork_16 : decode cX11_addWork 16 = .ok (.invokestatic 34, 3) := by decide +kernel
theorem dX11_addWork_19 : decode cX11_addWork 19 = .ok (.iload_n 3, 1) := by decide +kernel
theorem dX11_addWork_20 : decode cX11_addWork 20 = .ok (.iconst 1, 1) := by decide +kernel
theorem dX11_addWork_21 : decode cX11_addWork 21 = .ok (.bipush 60, 2) := by decide +kernel
theorem dX11_addWork_23 : decode cX11_addWork 23 = .ok (.invokestatic 30, 3) := by decide +kernel
theorem dX11_addWork_26 : decode cX11_addWork 26 = .ok (.invokestatic 34, 3) := by decide +kernel
theorem dX11_addWork_29 : decode cX11_addWork 29 = .ok (.aload_n 0, 1) := by decide +kernel
theorem dX11_addWork_30 : decode cX11_addWork 30 = .ok (.getfield 10, 3) := by decide +kernel
theorem dX11_addWork_33 : decode cX11_addWork 33 = .ok (.getfield 38, 3) := by decide +kernel
theorem dX11_addWork_36 : decode cX11_addWork 36 = .ok (.ifCond .ne 22, 3) := by decide +kernel
theorem dX11_addWork_39 : decode cX11_addWork 39 = .ok (.aload_n 0, 1) := by decide +kernel
theorem dX11_addWork_40 : decode cX11_addWork 40 = .ok (.getfield 10, 3) := by decide +kernel
theorem dX11_addWork_43 : decode cX11_addWork 43 = .ok (.getfield 42, 3) := by decide +kernel
theorem dX11_addWork_46 : decode cX11_addWork 46 = .ok (.getfield 46, 3) := by decide +kernel
theorem dX11_addWork_49 : decode cX11_addWork 49 = .ok (.bipush 30, 2) := by decide +kernel
theorem dX11_addWork_51 : decode cX11_addWork 51 = .ok (.if_icmp .ge 7, 3) := by decide +kernel
theorem dX11_addWork_54 : decode cX11_addWork 54 = .ok (.iconst 1, 1) := by decide +kernel
theorem dX11_addWork_55 : decode cX11_addWork 55 = .ok (.goto 4, 3) := by decide +kernel
theorem dX11_addWork_58 : decode cX11_addWork 58 = .ok (.iconst 0, 1) := by decide +kernel
theorem dX11_addWork_59 : decode cX11_addWork 59 = .ok (.invokestatic 51, 3) := by decide +kernel
theorem dX11_addWork_62 : decode cX11_addWork 62 = .ok (.aload_n 0, 1) := by decide +kernel
theorem dX11_addWork_63 : decode cX11_addWork 63 = .ok (.getfield 19, 3) := by decide +kernel
theorem dX11_addWork_66 : decode cX11_addWork 66 = .ok (.aload_n 0, 1) := by decide +kernel
theorem dX11_addWork_67 : decode cX11_addWork 67 = .ok (.getfield 10, 3) := by decide +kernel
theorem dX11_addWork_70 : decode cX11_addWork 70 = .ok (.invokevirtual 54, 3) := by decide +kernel
theorem dX11_addWork_73 : decode cX11_addWork 73 = .ok (.aload_n 0, 1) := by decide +kernel
theorem dX11_addWork_74 : decode cX11_addWork 74 = .ok (.getfield 10, 3) := by decide +kernel
theorem dX11_addWork_77 : decode cX11_addWork 77 = .ok (.getfield 42, 3) := by decide +kernel
theorem dX11_addWork_80 : decode cX11_addWork 80 = .ok (.iload_n 1, 1) := by decide +kernel
theorem dX11_addWork_81 : decode cX11_addWork 81 = .ok (.iload_n 2, 1) := by decide +kernel
theorem dX11_addWork_82 : decode cX11_addWork 82 = .ok (.iload_n 3, 1) := by decide +kernel
theorem dX11_addWork_83 : decode cX11_addWork 83 = .ok (.invokevirtual 58, 3) := by decide +kernel
theorem dX11_addWork_86 : decode cX11_addWork 86 = .ok (.ireturn, 1) := by decide +kernel
set_option maxRecDepth 20000 in
theorem ggX11_work_X10_has : GoodIn wsX11_work wsX10_has := goodIn_r _ [6, 7, 59, 60, 61, 62] (by decide +kernel) (by decide +kernel)
set_option maxRecDepth 20000 in
theorem gX11_work_X10_has : GoodIn wsX11_work (wsV RX11 62 RX10 yX10_has wsX10_has) := goodIn_app (goodIn_of _ (by decide +kernel)) ggX11_work_X10_has
set_option maxRecDepth 20000 in
theorem ggX11_work_X11_requireIndex : GoodIn wsX11_work wsX11_requireIndex := goodIn_ca (goodIn_r _ [11, 12, 13] (by decide +kernel) (by decide +kernel)) (goodIn_sub (fun _ h => List.mem_cons_of_mem _ (List.mem_append_left _ (List.mem_append_right _ h))) (by decide +kernel))
set_option maxRecDepth 20000 in
theorem gX11_work_X11_requireIndex : GoodIn wsX11_work (va_wsS RX11 66 yX11_requireIndex wsX11_requireIndex) := goodIn_app (goodIn_of _ (by decide +kernel)) ggX11_work_X11_requireIndex
set_option maxRecDepth 20000 in
theorem ggX11_work_X11_isBetween : GoodIn wsX11_work wsX11_isBetween := goodIn_r _ [16] (by decide +kernel) (by decide +kernel)
set_option maxRecDepth 20000 in
theorem gX11_work_X11_isBetween : GoodIn wsX11_work (va_wsS RX11 30 yX11_isBetween wsX11_isBetween) := goodIn_app (goodIn_of _ (by decide +kernel)) ggX11_work_X11_isBetween
set_option maxRecDepth 20000 in
theorem ggX11_work_X11_requireArgument : GoodIn wsX11_work wsX11_requireArgument := goodIn_ca (goodIn_r _ [19, 20, 21] (by decide +kernel) (by decide +kernel)) (goodIn_sub (fun _ h => List.mem_cons_of_mem _ (List.mem_append_right _ h)) (by decide +kernel))
set_option maxRecDepth 20000 in
theorem gX11_work_X11_requireArgument : GoodIn wsX11_work (va_wsS RX11 34 yX11_requireArgument wsX11_requireArgument) := goodIn_app (goodIn_of _ (by decide +kernel)) ggX11_work_X11_requireArgument
set_option maxRecDepth 20000 in
theorem ggX11_work_X10_fact : GoodIn wsX11_work wsX10_fact := goodIn_r _ [25, 26, 27, 28, 5, 29, 30, 31, 3, 4, 6, 7, 32, 33, 34, 35, 36, 37, 38, 39, 40, 41, 59, 60, 61, 62] (by decide +kernel) (by decide +kernel)
set_option maxRecDepth 20000 in
theorem gX11_work_X10_fact : GoodIn wsX11_work (wsV RX11 69 RX10 yX10_fact wsX10_fact) := goodIn_app (goodIn_of _ (by decide +kernel)) ggX11_work_X10_fact
theorem dX11_work_0 : decode cX11_work 0 = .ok (.aload_n 0, 1) := by decide +kernel
theorem dX11_work_1 : decode cX11_work 1 = .ok (.getfield 10, 3) := by decide +kernel
theorem dX11_work_4 : decode cX11_work 4 = .ok (.getfield 42, 3) := by decide +kernel
theorem dX11_work_7 : decode cX11_work 7 = .ok (.iload_n 1, 1) := by decide +kernel
theorem dX11_work_8 : decode cX11_work 8 = .ok (.invokevirtual 62, 3) := by decide +kernel
theorem dX11_work_11 : decode cX11_work 11 = .ok (.invokestatic 66, 3) := by decide +kernel
theorem dX11_work_14 : decode cX11_work 14 = .ok (.iload_n 2, 1) := by decide +kernel
theorem dX11_work_15 : decode cX11_work 15 = .ok (.iconst 0, 1) := by decide +kernel
theorem dX11_work_16 : decode cX11_work 16 = .ok (.iconst 2, 1) := by decide +kernel
theorem dX11_work_17 : decode cX11_work 17 = .ok (.invokestatic 30, 3) := by decide +kernel
theorem dX11_work_20 : decode cX11_work 20 = .ok (.invokestatic 34, 3) := by decide +kernel
theorem dX11_work_23 : decode cX11_work 23 = .ok (.aload_n 0, 1) := by decide +kernel
theorem dX11_work_24 : decode cX11_work 24 = .ok (.getfield 10, 3) := by decide +kernel
theorem dX11_work_27 : decode cX11_work 27 = .ok (.getfield 42, 3) := by decide +kernel
theorem dX11_work_30 : decode cX11_work 30 = .ok (.iload_n 1, 1) := by decide +kernel
theorem dX11_work_31 : decode cX11_work 31 = .ok (.iload_n 2, 1) := by decide +kernel
theorem dX11_work_32 : decode cX11_work 32 = .ok (.invokevirtual 69, 3) := by decide +kernel
theorem dX11_work_35 : decode cX11_work 35 = .ok (.ireturn, 1) := by decide +kernel
set_option maxRecDepth 20000 in
theorem ggX11_addEntrant_X11_requireState : GoodIn wsX11_addEntrant wsX11_requireState := goodIn_ca (goodIn_r _ [6, 7, 8] (by decide +kernel) (by decide +kernel)) (goodIn_sub (fun _ h => List.mem_cons_of_mem _ (List.mem_append_right _ h)) (by decide +kernel))
set_option maxRecDepth 20000 in
theorem gX11_addEntrant_X11_requireState : GoodIn wsX11_addEntrant (va_wsS RX11 51 yX11_requireState wsX11_requireState) := goodIn_app (goodIn_of _ (by decide +kernel)) ggX11_addEntrant_X11_requireState
set_option maxRecDepth 20000 in
theorem ggX11_addEntrant_X5_keep : GoodIn wsX11_addEntrant wsX5_keep := goodIn_r _ [13, 14, 15, 16, 17, 18, 12, 19, 20, 21, 22, 23, 24, 25, 26, 27, 28, 29, 30, 31, 32, 33, 34, 35, 36, 37, 38, 39, 40, 41, 42, 43, 44, 45, 46, 47, 5, 48, 49, 50, 51, 52, 53, 54, 55, 56, 57, 58, 59, 60, 61, 62, 63, 64, 65, 66, 67, 68, 69, 70, 71, 72, 73, 74, 75, 76, 77, 78, 79, 80, 81, 82, 83, 84, 85, 86, 87, 88, 89, 90, 91, 92, 93, 94, 95, 96, 97, 98, 99, 100, 101, 102, 103, 104, 128, 129, 112, 113, 114, 115, 116, 117, 118, 119, 120, 121, 122, 123, 124, 125, 130, 131, 132, 133, 126, 127, 134, 135, 136, 137, 138, 139, 140, 141, 142, 143, 144, 145, 146] (by decide +kernel) (by decide +kernel)
set_option maxRecDepth 20000 in
theorem gX11_addEntrant_X5_keep : GoodIn wsX11_addEntrant (wsV RX11 54 RX5 yX5_keep wsX5_keep) := goodIn_app (goodIn_of _ (by decide +kernel)) ggX11_addEntrant_X5_keep
set_option maxRecDepth 20000 in
theorem ggX11_addEntrant_X2_append : GoodIn wsX11_addEntrant wsX2_append := goodIn_r _ [108, 62, 63, 126, 127] (by decide +kernel) (by decide +kernel)
set_option maxRecDepth 20000 in
theorem gX11_addEntrant_X2_append : GoodIn wsX11_addEntrant (wsV RX11 80 RX2 yX2_append wsX2_append) := goodIn_app (goodIn_of _ (by decide +kernel)) ggX11_addEntrant_X2_append
theorem dX11_addEntrant_0 : decode cX11_addEntrant 0 = .ok (.aload_n 0, 1) := by decide +kernel
theorem dX11_addEntrant_1 : decode cX11_addEntrant 1 = .ok (.getfield 10, 3) := by decide +kernel
theorem dX11_addEntrant_4 : decode cX11_addEntrant 4 = .ok (.getfield 38, 3) := by decide +kernel
theorem dX11_addEntrant_7 : decode cX11_addEntrant 7 = .ok (.ifCond .ne 22, 3) := by decide +kernel
theorem dX11_addEntrant_10 : decode cX11_addEntrant 10 = .ok (.aload_n 0, 1) := by decide +kernel
theorem dX11_addEntrant_11 : decode cX11_addEntrant 11 = .ok (.getfield 10, 3) := by decide +kernel
theorem dX11_addEntrant_14 : decode cX11_addEntrant 14 = .ok (.getfield 73, 3) := by decide +kernel
theorem dX11_addEntrant_17 : decode cX11_addEntrant 17 = .ok (.getfield 77, 3) := by decide +kernel
theorem dX11_addEntrant_20 : decode cX11_addEntrant 20 = .ok (.bipush 12, 2) := by decide +kernel
theorem dX11_addEntrant_22 : decode cX11_addEntrant 22 = .ok (.if_icmp .ge 7, 3) := by decide +kernel
theorem dX11_addEntrant_25 : decode cX11_addEntrant 25 = .ok (.iconst 1, 1) := by decide +kernel
theorem dX11_addEntrant_26 : decode cX11_addEntrant 26 = .ok (.goto 4, 3) := by decide +kernel
theorem dX11_addEntrant_29 : decode cX11_addEntrant 29 = .ok (.iconst 0, 1) := by decide +kernel
theorem dX11_addEntrant_30 : decode cX11_addEntrant 30 = .ok (.invokestatic 51, 3) := by decide +kernel
theorem dX11_addEntrant_33 : decode cX11_addEntrant 33 = .ok (.aload_n 0, 1) := by decide +kernel
theorem dX11_addEntrant_34 : decode cX11_addEntrant 34 = .ok (.getfield 19, 3) := by decide +kernel
theorem dX11_addEntrant_37 : decode cX11_addEntrant 37 = .ok (.aload_n 0, 1) := by decide +kernel
theorem dX11_addEntrant_38 : decode cX11_addEntrant 38 = .ok (.getfield 10, 3) := by decide +kernel
theorem dX11_addEntrant_41 : decode cX11_addEntrant 41 = .ok (.invokevirtual 54, 3) := by decide +kernel
theorem dX11_addEntrant_44 : decode cX11_addEntrant 44 = .ok (.aload_n 0, 1) := by decide +kernel
theorem dX11_addEntrant_45 : decode cX11_addEntrant 45 = .ok (.getfield 10, 3) := by decide +kernel
theorem dX11_addEntrant_48 : decode cX11_addEntrant 48 = .ok (.getfield 73, 3) := by decide +kernel
theorem dX11_addEntrant_51 : decode cX11_addEntrant 51 = .ok (.invokevirtual 80, 3) := by decide +kernel
theorem dX11_addEntrant_54 : decode cX11_addEntrant 54 = .ok (.ireturn, 1) := by decide +kernel
set_option maxRecDepth 20000 in
theorem ggX11_bar_X11_requireJurorAndEntrant : GoodIn wsX11_bar wsX11_requireJurorAndEntrant := goodIn_ca (goodIn_r _ [7, 2, 8, 9, 10, 11, 12, 13, 14, 15, 6, 16, 17, 18, 19, 20, 21, 22, 23, 24, 25, 26, 27, 28, 129, 130, 131, 132, 133, 134, 135, 136, 137, 138, 139, 140, 141, 142, 143, 144, 145, 146, 147, 148, 149] (by decide +kernel) (by decide +kernel)) (goodIn_sub (fun _ h => List.mem_cons_of_mem _ (List.mem_append_right _ h)) (by decide +kernel))
set_option maxRecDepth 20000 in
theorem gX11_bar_X11_requireJurorAndEntrant : GoodIn wsX11_bar (wsV RX11 83 RX11 yX11_requireJurorAndEntrant wsX11_requireJurorAndEntrant) := goodIn_app (goodIn_of _ (by decide +kernel)) ggX11_bar_X11_requireJurorAndEntrant
set_option maxRecDepth 20000 in
theorem ggX11_bar_X5_keep : GoodIn wsX11_bar wsX5_keep := goodIn_r _ [33, 34, 35, 36, 37, 38, 32, 39, 40, 41, 42, 43, 44, 45, 46, 47, 48, 49, 50, 51, 52, 53, 54, 55, 56, 57, 58, 59, 60, 61, 62, 63, 64, 65, 66, 67, 6, 68, 69, 70, 71, 72, 73, 74, 75, 76, 77, 78, 79, 26, 80, 28, 81, 82, 83, 84, 85, 86, 87, 88, 89, 90, 91, 92, 11, 93, 13, 94, 95, 96, 97, 98, 99, 100, 101, 102, 103, 104, 105, 106, 107, 108, 109, 110, 111, 112, 113, 114, 115, 116, 117, 118, 119, 120, 150, 151, 132, 133, 134, 135, 136, 137, 138, 139, 140, 141, 142, 143, 144, 145, 152, 153, 154, 155, 148, 149, 156, 146, 147, 157, 158, 159, 160, 161, 162, 163, 164, 165, 166] (by decide +kernel) (by decide +kernel)
set_option maxRecDepth 20000 in
theorem gX11_bar_X5_keep : GoodIn wsX11_bar (wsV RX11 54 RX5 yX5_keep wsX5_keep) := goodIn_app (goodIn_of _ (by decide +kernel)) ggX11_bar_X5_keep
set_option maxRecDepth 20000 in
theorem ggX11_bar_X3_isBarred : GoodIn wsX11_bar wsX3_isBarred := goodIn_r _ [124, 94, 146, 147] (by decide +kernel) (by decide +kernel)
set_option maxRecDepth 20000 in
theorem gX11_bar_X3_isBarred : GoodIn wsX11_bar (wsV RX11 91 RX3 yX3_isBarred wsX3_isBarred) := goodIn_app (goodIn_of _ (by decide +kernel)) ggX11_bar_X3_isBarred
set_option maxRecDepth 20000 in
theorem ggX11_bar_X3_setBarred : GoodIn wsX11_bar wsX3_setBarred := goodIn_r _ [128, 94, 146, 147] (by decide +kernel) (by decide +kernel)
set_option maxRecDepth 20000 in
theorem gX11_bar_X3_setBarred : GoodIn wsX11_bar (wsV RX11 97 RX3 yX3_setBarred wsX3_setBarred) := goodIn_app (goodIn_of _ (by decide +kernel)) ggX11_bar_X3_setBarred
theorem dX11_bar_0 : decode cX11_bar 0 = .ok (.aload_n 0, 1) := by decide +kernel
theorem dX11_bar_1 : decode cX11_bar 1 = .ok (.iload_n 1, 1) := by decide +kernel
theorem dX11_bar_2 : decode cX11_bar 2 = .ok (.iload_n 2, 1) := by decide +kernel
theorem dX11_bar_3 : decode cX11_bar 3 = .ok (.invokevirtual 83, 3) := by decide +kernel
theorem dX11_bar_6 : decode cX11_bar 6 = .ok (.aload_n 0, 1) := by decide +kernel
theorem dX11_bar_7 : decode cX11_bar 7 = .ok (.getfield 19, 3) := by decide +kernel
theorem dX11_bar_10 : decode cX11_bar 10 = .ok (.aload_n 0, 1) := by decide +kernel
theorem dX11_bar_11 : decode cX11_bar 11 = .ok (.getfield 10, 3) := by decide +kernel
theorem dX11_bar_14 : decode cX11_bar 14 = .ok (.invokevirtual 54, 3) := by decide +kernel
theorem dX11_bar_17 : decode cX11_bar 17 = .ok (.aload_n 0, 1) := by decide +kernel
theorem dX11_bar_18 : decode cX11_bar 18 = .ok (.getfield 10, 3) := by decide +kernel
theorem dX11_bar_21 : decode cX11_bar 21 = .ok (.getfield 87, 3) := by decide +kernel
theorem dX11_bar_24 : decode cX11_bar 24 = .ok (.iload_n 1, 1) := by decide +kernel
theorem dX11_bar_25 : decode cX11_bar 25 = .ok (.iload_n 2, 1) := by decide +kernel
theorem dX11_bar_26 : decode cX11_bar 26 = .ok (.invokevirtual 91, 3) := by decide +kernel
theorem dX11_bar_29 : decode cX11_bar 29 = .ok (.istore 4, 2) := by decide +kernel
theorem dX11_bar_31 : decode cX11_bar 31 = .ok (.aload_n 0, 1) := by decide +kernel
theorem dX11_bar_32 : decode cX11_bar 32 = .ok (.getfield 10, 3) := by decide +kernel
theorem dX11_bar_35 : decode cX11_bar 35 = .ok (.getfield 87, 3) := by decide +kernel
theorem dX11_bar_38 : decode cX11_bar 38 = .ok (.iload_n 1, 1) := by decide +kernel
theorem dX11_bar_39 : decode cX11_bar 39 = .ok (.iload_n 2, 1) := by decide +kernel
theorem dX11_bar_40 : decode cX11_bar 40 = .ok (.iload_n 3, 1) := by decide +kernel
theorem dX11_bar_41 : decode cX11_bar 41 = .ok (.invokevirtual 97, 3) := by decide +kernel
theorem dX11_bar_44 : decode cX11_bar 44 = .ok (.iload 4, 2) := by decide +kernel
theorem dX11_bar_46 : decode cX11_bar 46 = .ok (.ireturn, 1) := by decide +kernel
set_option maxRecDepth 20000 in
theorem ggX11_set_X11_isBetween : GoodIn wsX11_set wsX11_isBetween := goodIn_r _ [8] (by decide +kernel) (by decide +kernel)
set_option maxRecDepth 20000 in
theorem gX11_set_X11_isBetween : GoodIn wsX11_set (va_wsS RX11 30 yX11_isBetween wsX11_isBetween) := goodIn_app (goodIn_of _ (by decide +kernel)) ggX11_set_X11_isBetween
set_option maxRecDepth 20000 in
theorem ggX11_set_X11_requireArgument : GoodIn wsX11_set wsX11_requireArgument := goodIn_ca (goodIn_r _ [11, 12, 13] (by decide +kernel) (by decide +kernel)) (goodIn_sub (fun _ h => List.mem_cons_of_mem _ (List.mem_append_left _ (List.mem_append_right _ h))) (by decide +kernel))
set_option maxRecDepth 20000 in
theorem gX11_set_X11_requireArgument : GoodIn wsX11_set (va_wsS RX11 34 yX11_requireArgument wsX11_requireArgument) := goodIn_app (goodIn_of _ (by decide +kernel)) ggX11_set_X11_requireArgument
set_option maxRecDepth 20000 in
theorem ggX11_set_X11_requireState : GoodIn wsX11_set wsX11_requireState := goodIn_ca (goodIn_r _ [16, 17, 18] (by decide +kernel) (by decide +kernel)) (goodIn_sub (fun _ h => List.mem_cons_of_mem _ (List.mem_append_right _ h)) (by decide +kernel))
set_option maxRecDepth 20000 in
theorem gX11_set_X11_requireState : GoodIn wsX11_set (va_wsS RX11 51 yX11_requireState wsX11_requireState) := goodIn_app (goodIn_of _ (by decide +kernel)) ggX11_set_X11_requireState
set_option maxRecDepth 20000 in
theorem ggX11_set_X5_keep : GoodIn wsX11_set wsX5_keep := goodIn_r _ [23, 24, 25, 26, 27, 28, 22, 29, 30, 31, 32, 33, 34, 35, 36, 37, 38, 39, 40, 41, 42, 43, 44, 45, 46, 47, 48, 49, 50, 51, 52, 53, 54, 55, 56, 57, 7, 58, 59, 60, 61, 62, 63, 64, 65, 66, 67, 68, 69, 70, 71, 72, 73, 74, 75, 76, 77, 78, 79, 80, 81, 82, 83, 84, 85, 86, 87, 88, 89, 90, 91, 92, 93, 94, 95, 96, 97, 98, 99, 100, 101, 102, 103, 104, 105, 106, 107, 108, 109, 110, 111, 112, 113, 114, 156, 157, 142, 143, 144, 145, 146, 147, 148, 149, 150, 151, 152, 153, 154, 155, 158, 159, 160, 161, 162, 163, 164, 165, 166, 167, 168, 169, 170, 171, 172, 173, 174, 175, 176] (by decide +kernel) (by decide +kernel)
set_option maxRecDepth 20000 in
theorem gX11_set_X5_keep : GoodIn wsX11_set (wsV RX11 54 RX5 yX5_keep wsX5_keep) := goodIn_app (goodIn_of _ (by decide +kernel)) ggX11_set_X5_keep
set_option maxRecDepth 20000 in
theorem ggX11_set_X0_tell : GoodIn wsX11_set wsX0_tell := goodIn_r _ [118, 43, 37, 38, 35, 36, 39, 40, 44, 46, 119, 120, 121, 70, 122, 72, 123, 124, 125, 126, 73, 127, 128, 129, 130, 131, 132, 133, 108, 134, 112, 142, 143, 144, 145, 146, 147, 148, 149, 150, 151, 152, 153, 154, 155, 165, 166, 158, 159, 160, 161, 162, 163, 167, 168, 169, 170, 171, 173, 174, 175, 176] (by decide +kernel) (by decide +kernel)
set_option maxRecDepth 20000 in
theorem gX11_set_X0_tell : GoodIn wsX11_set (wsV RX11 108 RX0 yX0_tell wsX0_tell) := goodIn_app (goodIn_of _ (by decide +kernel)) ggX11_set_X0_tell
set_option maxRecDepth 20000 in
theorem ggX11_set_X0_change : GoodIn wsX11_set wsX0_change := goodIn_r _ [138, 43, 37, 38, 142, 143, 144, 145, 146, 147, 148, 149, 150, 151, 152, 153, 154, 155, 165, 166] (by decide +kernel) (by decide +kernel)
set_option maxRecDepth 20000 in
theorem gX11_set_X0_change : GoodIn wsX11_set (wsV RX11 112 RX0 yX0_change wsX0_change) := goodIn_app (goodIn_of _ (by decide +kernel)) ggX11_set_X0_change
theorem dX11_set_0 : decode cX11_set 0 = .ok (.iload_n 1, 1) := by decide +kernel
theorem dX11_set_1 : decode cX11_set 1 = .ok (.iconst 0, 1) := by decide +kernel
theorem dX11_set_2 : decode cX11_set 2 = .ok (.iconst 2, 1) := by decide +kernel
theorem dX11_set_3 : decode cX11_set 3 = .ok (.invokestatic 30, 3) := by decide +kernel
theorem dX11_set_6 : decode cX11_set 6 = .ok (.invokestatic 34, 3) := by decide +kernel
theorem dX11_set_9 : decode cX11_set 9 = .ok (.iload_n 2, 1) := by decide +kernel
theorem dX11_set_10 : decode cX11_set 10 = .ok (.getstatic 101, 3) := by decide +kernel
theorem dX11_set_13 : decode cX11_set 13 = .ok (.iload_n 1, 1) := by decide +kernel
theorem dX11_set_14 : decode cX11_set 14 = .ok (.iaload, 1) := by decide +kernel
theorem dX11_set_15 : decode cX11_set 15 = .ok (.getstatic 105, 3) := by decide +kernel
theorem dX11_set_18 : decode cX11_set 18 = .ok (.iload_n 1, 1) := by decide +kernel
theorem dX11_set_19 : decode cX11_set 19 = .ok (.iaload, 1) := by decide +kernel
theorem dX11_set_20 : decode cX11_set 20 = .ok (.invokestatic 30, 3) := by decide +kernel
theorem dX11_set_23 : decode cX11_set 23 = .ok (.invokestatic 34, 3) := by decide +kernel
theorem dX11_set_26 : decode cX11_set 26 = .ok (.iload_n 1, 1) := by decide +kernel
theorem dX11_set_27 : decode cX11_set 27 = .ok (.iconst 2, 1) := by decide +kernel
theorem dX11_set_28 : decode cX11_set 28 = .ok (.if_icmp .eq 13, 3) := by decide +kernel
theorem dX11_set_31 : decode cX11_set 31 = .ok (.aload_n 0, 1) := by decide +kernel
theorem dX11_set_32 : decode cX11_set 32 = .ok (.getfield 10, 3) := by decide +kernel
theorem dX11_set_35 : decode cX11_set 35 = .ok (.getfield 38, 3) := by decide +kernel
theorem dX11_set_38 : decode cX11_set 38 = .ok (.ifCond .ne 7, 3) := by decide +kernel
theorem dX11_set_41 : decode cX11_set 41 = .ok (.iconst 1, 1) := by decide +kernel
theorem dX11_set_42 : decode cX11_set 42 = .ok (.goto 4, 3) := by decide +kernel
theorem dX11_set_45 : decode cX11_set 45 = .ok (.iconst 0, 1) := by decide +kernel
theorem dX11_set_46 : decode cX11_set 46 = .ok (.invokestatic 51, 3) := by decide +kernel
theorem dX11_set_49 : decode cX11_set 49 = .ok (.aload_n 0, 1) := by decide +kernel
theorem dX11_set_50 : decode cX11_set 50 = .ok (.getfield 19, 3) := by decide +kernel
theorem dX11_set_53 : decode cX11_set 53 = .ok (.aload_n 0, 1) := by decide +kernel
theorem dX11_set_54 : decode cX11_set 54 = .ok (.getfield 10, 3) := by decide +kernel
theorem dX11_set_57 : decode cX11_set 57 = .ok (.invokevirtual 54, 3) := by decide +kernel
theorem dX11_set_60 : decode cX11_set 60 = .ok (.aload_n 0, 1) := by decide +kernel
theorem dX11_set_61 : decode cX11_set 61 = .ok (.getfield 10, 3) := by decide +kernel
theorem dX11_set_64 : decode cX11_set 64 = .ok (.iload_n 1, 1) := by decide +kernel
theorem dX11_set_65 : decode cX11_set 65 = .ok (.invokevirtual 108, 3) := by decide +kernel
theorem dX11_set_68 : decode cX11_set 68 = .ok (.istore_n 3, 1) := by decide +kernel
theorem dX11_set_69 : decode cX11_set 69 = .ok (.aload_n 0, 1) := by decide +kernel
theorem dX11_set_70 : decode cX11_set 70 = .ok (.getfield 10, 3) := by decide +kernel
theorem dX11_set_73 : decode cX11_set 73 = .ok (.iload_n 1, 1) := by decide +kernel
theorem dX11_set_74 : decode cX11_set 74 = .ok (.iload_n 2, 1) := by decide +kernel
theorem dX11_set_75 : decode cX11_set 75 = .ok (.invokevirtual 112, 3) := by decide +kernel
theorem dX11_set_78 : decode cX11_set 78 = .ok (.iload_n 3, 1) := by decide +kernel
theorem dX11_set_79 : decode cX11_set 79 = .ok (.ireturn, 1) := by decide +kernel
set_option maxRecDepth 20000 in
theorem ggX11_setRule_X11_requireRound : GoodIn wsX11_setRule wsX11_requireRound := goodIn_ca (goodIn_r _ [8, 9, 10, 7, 11, 12, 13, 14, 15, 16] (by decide +kernel) (by decide +kernel)) (goodIn_sub (fun _ h => List.mem_cons_of_mem _ (List.mem_append_left _ (List.mem_append_left _ (List.mem_append_right _ h)))) (by decide +kernel))
set_option maxRecDepth 20000 in
theorem gX11_setRule_X11_requireRound : GoodIn wsX11_setRule (va_wsS RX11 115 yX11_requireRound wsX11_requireRound) := goodIn_app (goodIn_of _ (by decide +kernel)) ggX11_setRule_X11_requireRound
set_option maxRecDepth 20000 in
theorem ggX11_setRule_X11_isBetween : GoodIn wsX11_setRule wsX11_isBetween := goodIn_r _ [11] (by decide +kernel) (by decide +kernel)
set_option maxRecDepth 20000 in
theorem gX11_setRule_X11_isBetween : GoodIn wsX11_setRule (va_wsS RX11 30 yX11_isBetween wsX11_isBetween) := goodIn_app (goodIn_of _ (by decide +kernel)) ggX11_setRule_X11_isBetween
set_option maxRecDepth 20000 in
theorem ggX11_setRule_X11_requireArgument : GoodIn wsX11_setRule wsX11_requireArgument := goodIn_ca (goodIn_r _ [19, 20, 21] (by decide +kernel) (by decide +kernel)) (goodIn_sub (fun _ h => List.mem_cons_of_mem _ (List.mem_append_left _ (List.mem_append_right _ h))) (by decide +kernel))
set_option maxRecDepth 20000 in
theorem gX11_setRule_X11_requireArgument : GoodIn wsX11_setRule (va_wsS RX11 34 yX11_requireArgument wsX11_requireArgument) := goodIn_app (goodIn_of _ (by decide +kernel)) ggX11_setRule_X11_requireArgument
set_option maxRecDepth 20000 in
theorem ggX11_setRule_X11_requireState : GoodIn wsX11_setRule wsX11_requireState := goodIn_ca (goodIn_r _ [24, 25, 26] (by decide +kernel) (by decide +kernel)) (goodIn_sub (fun _ h => List.mem_cons_of_mem _ (List.mem_append_right _ h)) (by decide +kernel))
set_option maxRecDepth 20000 in
theorem gX11_setRule_X11_requireState : GoodIn wsX11_setRule (va_wsS RX11 51 yX11_requireState wsX11_requireState) := goodIn_app (goodIn_of _ (by decide +kernel)) ggX11_setRule_X11_requireState
set_option maxRecDepth 20000 in
theorem ggX11_setRule_X5_keep : GoodIn wsX11_setRule wsX5_keep := goodIn_r _ [31, 32, 33, 34, 35, 36, 30, 37, 38, 39, 40, 41, 42, 43, 44, 45, 46, 47, 48, 49, 50, 51, 52, 53, 54, 55, 56, 57, 58, 59, 60, 61, 62, 63, 64, 65, 7, 66, 67, 68, 69, 70, 71, 72, 73, 74, 75, 76, 77, 78, 79, 80, 81, 82, 83, 84, 85, 86, 87, 88, 89, 90, 91, 92, 93, 94, 95, 96, 97, 98, 99, 100, 101, 102, 103, 104, 105, 106, 107, 108, 109, 110, 111, 112, 113, 114, 115, 116, 117, 118, 119, 120, 121, 122, 140, 141, 126, 127, 128, 129, 130, 131, 132, 133, 134, 135, 136, 137, 138, 139, 142, 143, 144, 145, 146, 147, 148, 149, 150, 151, 152, 153, 154, 155, 156, 157, 158, 159, 160] (by decide +kernel) (by decide +kernel)
set_option maxRecDepth 20000 in
theorem gX11_setRule_X5_keep : GoodIn wsX11_setRule (wsV RX11 54 RX5 yX5_keep wsX5_keep) := goodIn_app (goodIn_of _ (by decide +kernel)) ggX11_setRule_X5_keep
theorem dX11_setRule_0 : decode cX11_setRule 0 = .ok (.iload_n 1, 1) := by decide +kernel
theorem dX11_setRule_1 : decode cX11_setRule 1 = .ok (.invokestatic 115, 3) := by decide +kernel
theorem dX11_setRule_4 : decode cX11_setRule 4 = .ok (.iload_n 2, 1) := by decide +kernel
theorem dX11_setRule_5 : decode cX11_setRule 5 = .ok (.iconst 0, 1) := by decide +kernel
theorem dX11_setRule_6 : decode cX11_setRule 6 = .ok (.iconst 5, 1) := by decide +kernel
theorem dX11_setRule_7 : decode cX11_setRule 7 = .ok (.invokestatic 30, 3) := by decide +kernel
theorem dX11_setRule_10 : decode cX11_setRule 10 = .ok (.invokestatic 34, 3) := by decide +kernel
theorem dX11_setRule_13 : decode cX11_setRule 13 = .ok (.iload_n 3, 1) := by decide +kernel
theorem dX11_setRule_14 : decode cX11_setRule 14 = .ok (.getstatic 119, 3) := by decide +kernel
theorem dX11_setRule_17 : decode cX11_setRule 17 = .ok (.iload_n 2, 1) := by decide +kernel
theorem dX11_setRule_18 : decode cX11_setRule 18 = .ok (.iaload, 1) := by decide +kernel
theorem dX11_setRule_19 : decode cX11_setRule 19 = .ok (.getstatic 122, 3) := by decide +kernel
theorem dX11_setRule_22 : decode cX11_setRule 22 = .ok (.iload_n 2, 1) := by decide +kernel
theorem dX11_setRule_23 : decode cX11_setRule 23 = .ok (.iaload, 1) := by decide +kernel
theorem dX11_setRule_24 : decode cX11_setRule 24 = .ok (.invokestatic 30, 3) := by decide +kernel
theorem dX11_setRule_27 : decode cX11_setRule 27 = .ok (.invokestatic 34, 3) := by decide +kernel
theorem dX11_setRule_30 : decode cX11_setRule 30 = .ok (.aload_n 0, 1) := by decide +kernel
theorem dX11_setRule_31 : decode cX11_setRule 31 = .ok (.getfield 10, 3) := by decide +kernel
theorem dX11_setRule_34 : decode cX11_setRule 34 = .ok (.getfield 38, 3) := by decide +kernel
theorem dX11_setRule_37 : decode cX11_setRule 37 = .ok (.ifCond .ne 7, 3) := by decide +kernel
theorem dX11_setRule_40 : decode cX11_setRule 40 = .ok (.iconst 1, 1) := by decide +kernel
theorem dX11_setRule_41 : decode cX11_setRule 41 = .ok (.goto 4, 3) := by decide +kernel
theorem dX11_setRule_44 : decode cX11_setRule 44 = .ok (.iconst 0, 1) := by decide +kernel
theorem dX11_setRule_45 : decode cX11_setRule 45 = .ok (.invokestatic 51, 3) := by decide +kernel
theorem dX11_setRule_48 : decode cX11_setRule 48 = .ok (.aload_n 0, 1) := by decide +kernel
theorem dX11_setRule_49 : decode cX11_setRule 49 = .ok (.getfield 19, 3) := by decide +kernel
theorem dX11_setRule_52 : decode cX11_setRule 52 = .ok (.aload_n 0, 1) := by decide +kernel
theorem dX11_setRule_53 : decode cX11_setRule 53 = .ok (.getfield 10, 3) := by decide +kernel
theorem dX11_setRule_56 : decode cX11_setRule 56 = .ok (.invokevirtual 54, 3) := by decide +kernel
theorem dX11_setRule_59 : decode cX11_setRule 59 = .ok (.aload_n 0, 1) := by decide +kernel
theorem dX11_setRule_60 : decode cX11_setRule 60 = .ok (.getfield 10, 3) := by decide +kernel
theorem dX11_setRule_63 : decode cX11_setRule 63 = .ok (.getfield 125, 3) := by decide +kernel
theorem dX11_setRule_66 : decode cX11_setRule 66 = .ok (.iload_n 1, 1) := by decide +kernel
theorem dX11_setRule_67 : decode cX11_setRule 67 = .ok (.aaload, 1) := by decide +kernel
theorem dX11_setRule_68 : decode cX11_setRule 68 = .ok (.iload_n 2, 1) := by decide +kernel
theorem dX11_setRule_69 : decode cX11_setRule 69 = .ok (.iaload, 1) := by decide +kernel
theorem dX11_setRule_70 : decode cX11_setRule 70 = .ok (.istore 4, 2) := by decide +kernel
theorem dX11_setRule_72 : decode cX11_setRule 72 = .ok (.aload_n 0, 1) := by decide +kernel
theorem dX11_setRule_73 : decode cX11_setRule 73 = .ok (.getfield 10, 3) := by decide +kernel
theorem dX11_setRule_76 : decode cX11_setRule 76 = .ok (.getfield 125, 3) := by decide +kernel
theorem dX11_setRule_79 : decode cX11_setRule 79 = .ok (.iload_n 1, 1) := by decide +kernel
theorem dX11_setRule_80 : decode cX11_setRule 80 = .ok (.aaload, 1) := by decide +kernel
theorem dX11_setRule_81 : decode cX11_setRule 81 = .ok (.iload_n 2, 1) := by decide +kernel
theorem dX11_setRule_82 : decode cX11_setRule 82 = .ok (.iload_n 3, 1) := by decide +kernel
theorem dX11_setRule_83 : decode cX11_setRule 83 = .ok (.iastore, 1) := by decide +kernel
theorem dX11_setRule_84 : decode cX11_setRule 84 = .ok (.iload 4, 2) := by decide +kernel
theorem dX11_setRule_86 : decode cX11_setRule 86 = .ok (.ireturn, 1) := by decide +kernel
set_option maxRecDepth 20000 in
theorem ggX11_rule_X11_requireRound : GoodIn wsX11_rule wsX11_requireRound := goodIn_ca (goodIn_r _ [5, 6, 7, 4, 8, 9, 10, 11, 12, 13] (by decide +kernel) (by decide +kernel)) (goodIn_sub (fun _ h => List.mem_cons_of_mem _ (List.mem_append_left _ (List.mem_append_right _ h))) (by decide +kernel))
set_option maxRecDepth 20000 in
theorem gX11_rule_X11_requireRound : GoodIn wsX11_rule (va_wsS RX11 115 yX11_requireRound wsX11_requireRound) := goodIn_app (goodIn_of _ (by decide +kernel)) ggX11_rule_X11_requireRound
set_option maxRecDepth 20000 in
theorem ggX11_rule_X11_isBetween : GoodIn wsX11_rule wsX11_isBetween := goodIn_r _ [8] (by decide +kernel) (by decide +kernel)
set_option maxRecDepth 20000 in
theorem gX11_rule_X11_isBetween : GoodIn wsX11_rule (va_wsS RX11 30 yX11_isBetween wsX11_isBetween) := goodIn_app (goodIn_of _ (by decide +kernel)) ggX11_rule_X11_isBetween
set_option maxRecDepth 20000 in
theorem ggX11_rule_X11_requireArgument : GoodIn wsX11_rule wsX11_requireArgument := goodIn_ca (goodIn_r _ [16, 17, 18] (by decide +kernel) (by decide +kernel)) (goodIn_sub (fun _ h => List.mem_cons_of_mem _ (List.mem_append_right _ h)) (by decide +kernel))
set_option maxRecDepth 20000 in
theorem gX11_rule_X11_requireArgument : GoodIn wsX11_rule (va_wsS RX11 34 yX11_requireArgument wsX11_requireArgument) := goodIn_app (goodIn_of _ (by decide +kernel)) ggX11_rule_X11_requireArgument
theorem dX11_rule_0 : decode cX11_rule 0 = .ok (.iload_n 1, 1) := by decide +kernel
theorem dX11_rule_1 : decode cX11_rule 1 = .ok (.invokestatic 115, 3) := by decide +kernel
theorem dX11_rule_4 : decode cX11_rule 4 = .ok (.iload_n 2, 1) := by decide +kernel
theorem dX11_rule_5 : decode cX11_rule 5 = .ok (.iconst 0, 1) := by decide +kernel
theorem dX11_rule_6 : decode cX11_rule 6 = .ok (.iconst 5, 1) := by decide +kernel
theorem dX11_rule_7 : decode cX11_rule 7 = .ok (.invokestatic 30, 3) := by decide +kernel
theorem dX11_rule_10 : decode cX11_rule 10 = .ok (.invokestatic 34, 3) := by decide +kernel
theorem dX11_rule_13 : decode cX11_rule 13 = .ok (.aload_n 0, 1) := by decide +kernel
theorem dX11_rule_14 : decode cX11_rule 14 = .ok (.getfield 10, 3) := by decide +kernel
theorem dX11_rule_17 : decode cX11_rule 17 = .ok (.getfield 125, 3) := by decide +kernel
theorem dX11_rule_20 : decode cX11_rule 20 = .ok (.iload_n 1, 1) := by decide +kernel
theorem dX11_rule_21 : decode cX11_rule 21 = .ok (.aaload, 1) := by decide +kernel
theorem dX11_rule_22 : decode cX11_rule 22 = .ok (.iload_n 2, 1) := by decide +kernel
theorem dX11_rule_23 : decode cX11_rule 23 = .ok (.iaload, 1) := by decide +kernel
theorem dX11_rule_24 : decode cX11_rule 24 = .ok (.ireturn, 1) := by decide +kernel
set_option maxRecDepth 20000 in
theorem ggX11_setProgram_X11_requireEntrantAndRound : GoodIn wsX11_setProgram wsX11_requireEntrantAndRound := goodIn_ca (goodIn_r _ [8, 9, 10, 11, 7, 12, 2, 13, 14, 15, 16, 17, 18, 19, 20, 21, 22, 23, 24, 25, 26, 27, 28, 29, 160, 161, 162, 163, 164, 165, 166, 167, 168, 169, 170, 171, 172, 173, 174, 175, 176, 186, 187] (by decide +kernel) (by decide +kernel)) (goodIn_sub (fun _ h => List.mem_cons_of_mem _ (List.mem_append_left _ (List.mem_append_right _ h))) (by decide +kernel))
set_option maxRecDepth 20000 in
theorem gX11_setProgram_X11_requireEntrantAndRound : GoodIn wsX11_setProgram (wsV RX11 129 RX11 yX11_requireEntrantAndRound wsX11_requireEntrantAndRound) := goodIn_app (goodIn_of _ (by decide +kernel)) ggX11_setProgram_X11_requireEntrantAndRound
set_option maxRecDepth 20000 in
theorem ggX11_setProgram_X8_faultAmong : GoodIn wsX11_setProgram wsX8_faultAmong := goodIn_r _ [34, 35, 36, 37, 38, 39, 40, 33, 41, 42, 43, 28, 7, 29, 44, 45, 46, 47, 48, 49, 50, 51, 181, 182, 183, 184, 185] (by decide +kernel) (by decide +kernel)
set_option maxRecDepth 20000 in
theorem gX11_setProgram_X8_faultAmong : GoodIn wsX11_setProgram (wsV RX11 132 RX8 yX8_faultAmong wsX8_faultAmong) := goodIn_app (goodIn_of _ (by decide +kernel)) ggX11_setProgram_X8_faultAmong
set_option maxRecDepth 20000 in
theorem ggX11_setProgram_X11_requireArgument : GoodIn wsX11_setProgram wsX11_requireArgument := goodIn_ca (goodIn_r _ [54, 55, 56] (by decide +kernel) (by decide +kernel)) (goodIn_sub (fun _ h => List.mem_cons_of_mem _ (List.mem_append_right _ h)) (by decide +kernel))
set_option maxRecDepth 20000 in
theorem gX11_setProgram_X11_requireArgument : GoodIn wsX11_setProgram (va_wsS RX11 34 yX11_requireArgument wsX11_requireArgument) := goodIn_app (goodIn_of _ (by decide +kernel)) ggX11_setProgram_X11_requireArgument
set_option maxRecDepth 20000 in
theorem ggX11_setProgram_X5_keep : GoodIn wsX11_setProgram wsX5_keep := goodIn_r _ [61, 62, 63, 64, 65, 66, 60, 67, 68, 69, 70, 71, 72, 73, 74, 75, 76, 77, 78, 79, 80, 81, 82, 83, 84, 85, 86, 87, 88, 89, 90, 91, 92, 93, 94, 95, 7, 96, 97, 98, 99, 100, 101, 102, 103, 104, 105, 106, 107, 16, 108, 18, 109, 110, 111, 112, 113, 114, 115, 116, 117, 118, 119, 120, 121, 122, 123, 124, 125, 126, 127, 128, 129, 130, 131, 132, 133, 134, 135, 136, 137, 138, 139, 140, 141, 142, 143, 144, 145, 146, 147, 148, 149, 150, 188, 189, 163, 164, 165, 166, 167, 168, 169, 170, 171, 172, 173, 174, 175, 176, 177, 178, 179, 180, 186, 187, 190, 191, 192, 193, 194, 195, 196, 197, 198, 199, 200, 201, 202] (by decide +kernel) (by decide +kernel)
set_option maxRecDepth 20000 in
theorem gX11_setProgram_X5_keep : GoodIn wsX11_setProgram (wsV RX11 54 RX5 yX5_keep wsX5_keep) := goodIn_app (goodIn_of _ (by decide +kernel)) ggX11_setProgram_X5_keep
set_option maxRecDepth 20000 in
theorem ggX11_setProgram_X4_empty : GoodIn wsX11_setProgram wsX4_empty := goodIn_r _ [154, 155, 156, 157, 115, 158, 117, 190] (by decide +kernel) (by decide +kernel)
set_option maxRecDepth 20000 in
theorem gX11_setProgram_X4_empty : GoodIn wsX11_setProgram (wsV RX11 139 RX4 yX4_empty wsX4_empty) := goodIn_app (goodIn_of _ (by decide +kernel)) ggX11_setProgram_X4_empty
set_option maxRecDepth 20000 in
theorem ggX11_setProgram_X4_put : GoodIn wsX11_setProgram wsX4_put := goodIn_r _ [158, 117, 190] (by decide +kernel) (by decide +kernel)
set_option maxRecDepth 20000 in
theorem gX11_setProgram_X4_put : GoodIn wsX11_setProgram (wsV RX11 150 RX4 yX4_put wsX4_put) := goodIn_app (goodIn_of _ (by decide +kernel)) ggX11_setProgram_X4_put
theorem dX11_setProgram_0 : decode cX11_setProgram 0 = .ok (.aload_n 0, 1) := by decide +kernel
theorem dX11_setProgram_1 : decode cX11_setProgram 1 = .ok (.iload_n 1, 1) := by decide +kernel
theorem dX11_setProgram_2 : decode cX11_setProgram 2 = .ok (.iload_n 2, 1) := by decide +kernel
theorem dX11_setProgram_3 : decode cX11_setProgram 3 = .ok (.invokevirtual 129, 3) := by decide +kernel
theorem dX11_setProgram_6 : decode cX11_setProgram 6 = .ok (.aload_n 0, 1) := by decide +kernel
theorem dX11_setProgram_7 : decode cX11_setProgram 7 = .ok (.getfield 26, 3) := by decide +kernel
theorem dX11_setProgram_10 : decode cX11_setProgram 10 = .ok (.aload_n 0, 1) := by decide +kernel
theorem dX11_setProgram_11 : decode cX11_setProgram 11 = .ok (.getfield 10, 3) := by decide +kernel
theorem dX11_setProgram_14 : decode cX11_setProgram 14 = .ok (.getfield 42, 3) := by decide +kernel
theorem dX11_setProgram_17 : decode cX11_setProgram 17 = .ok (.getfield 46, 3) := by decide +kernel
theorem dX11_setProgram_20 : decode cX11_setProgram 20 = .ok (.invokevirtual 132, 3) := by decide +kernel
theorem dX11_setProgram_23 : decode cX11_setProgram 23 = .ok (.iconst (-1), 1) := by decide +kernel
theorem dX11_setProgram_24 : decode cX11_setProgram 24 = .ok (.if_icmp .ne 7, 3) := by decide +kernel
theorem dX11_setProgram_27 : decode cX11_setProgram 27 = .ok (.iconst 1, 1) := by decide +kernel
theorem dX11_setProgram_28 : decode cX11_setProgram 28 = .ok (.goto 4, 3) := by decide +kernel
theorem dX11_setProgram_31 : decode cX11_setProgram 31 = .ok (.iconst 0, 1) := by decide +kernel
theorem dX11_setProgram_32 : decode cX11_setProgram 32 = .ok (.invokestatic 34, 3) := by decide +kernel
theorem dX11_setProgram_35 : decode cX11_setProgram 35 = .ok (.aload_n 0, 1) := by decide +kernel
theorem dX11_setProgram_36 : decode cX11_setProgram 36 = .ok (.getfield 19, 3) := by decide +kernel
theorem dX11_setProgram_39 : decode cX11_setProgram 39 = .ok (.aload_n 0, 1) := by decide +kernel
theorem dX11_setProgram_40 : decode cX11_setProgram 40 = .ok (.getfield 10, 3) := by decide +kernel
theorem dX11_setProgram_43 : decode cX11_setProgram 43 = .ok (.invokevirtual 54, 3) := by decide +kernel
theorem dX11_setProgram_46 : decode cX11_setProgram 46 = .ok (.aload_n 0, 1) := by decide +kernel
theorem dX11_setProgram_47 : decode cX11_setProgram 47 = .ok (.getfield 10, 3) := by decide +kernel
theorem dX11_setProgram_50 : decode cX11_setProgram 50 = .ok (.getfield 135, 3) := by decide +kernel
theorem dX11_setProgram_53 : decode cX11_setProgram 53 = .ok (.iload_n 1, 1) := by decide +kernel
theorem dX11_setProgram_54 : decode cX11_setProgram 54 = .ok (.iload_n 2, 1) := by decide +kernel
theorem dX11_setProgram_55 : decode cX11_setProgram 55 = .ok (.invokevirtual 139, 3) := by decide +kernel
theorem dX11_setProgram_58 : decode cX11_setProgram 58 = .ok (.iconst 0, 1) := by decide +kernel
theorem dX11_setProgram_59 : decode cX11_setProgram 59 = .ok (.istore_n 3, 1) := by decide +kernel
theorem dX11_setProgram_60 : decode cX11_setProgram 60 = .ok (.iload_n 3, 1) := by decide +kernel
theorem dX11_setProgram_61 : decode cX11_setProgram 61 = .ok (.aload_n 0, 1) := by decide +kernel
theorem dX11_setProgram_62 : decode cX11_setProgram 62 = .ok (.getfield 26, 3) := by decide +kernel
theorem dX11_setProgram_65 : decode cX11_setProgram 65 = .ok (.getfield 144, 3) := by decide +kernel
theorem dX11_setProgram_68 : decode cX11_setProgram 68 = .ok (.if_icmp .ge 31, 3) := by decide +kernel
theorem dX11_setProgram_71 : decode cX11_setProgram 71 = .ok (.aload_n 0, 1) := by decide +kernel
theorem dX11_setProgram_72 : decode cX11_setProgram 72 = .ok (.getfield 10, 3) := by decide +kernel
theorem dX11_setProgram_75 : decode cX11_setProgram 75 = .ok (.getfield 135, 3) := by decide +kernel
theorem dX11_setProgram_78 : decode cX11_setProgram 78 = .ok (.iload_n 1, 1) := by decide +kernel
theorem dX11_setProgram_79 : decode cX11_setProgram 79 = .ok (.iload_n 2, 1) := by decide +kernel
theorem dX11_setProgram_80 : decode cX11_setProgram 80 = .ok (.iload_n 3, 1) := by decide +kernel
theorem dX11_setProgram_81 : decode cX11_setProgram 81 = .ok (.aload_n 0, 1) := by decide +kernel
theorem dX11_setProgram_82 : decode cX11_setProgram 82 = .ok (.getfield 26, 3) := by decide +kernel
theorem dX11_setProgram_85 : decode cX11_setProgram 85 = .ok (.getfield 147, 3) := by decide +kernel
theorem dX11_setProgram_88 : decode cX11_setProgram 88 = .ok (.iload_n 3, 1) := by decide +kernel
theorem dX11_setProgram_89 : decode cX11_setProgram 89 = .ok (.iaload, 1) := by decide +kernel
theorem dX11_setProgram_90 : decode cX11_setProgram 90 = .ok (.invokevirtual 150, 3) := by decide +kernel
theorem dX11_setProgram_93 : decode cX11_setProgram 93 = .ok (.iinc 3 1, 3) := by decide +kernel
theorem dX11_setProgram_96 : decode cX11_setProgram 96 = .ok (.goto (-36), 3) := by decide +kernel
theorem dX11_setProgram_99 : decode cX11_setProgram 99 = .ok (.aload_n 0, 1) := by decide +kernel
theorem dX11_setProgram_100 : decode cX11_setProgram 100 = .ok (.getfield 26, 3) := by decide +kernel
theorem dX11_setProgram_103 : decode cX11_setProgram 103 = .ok (.getfield 144, 3) := by decide +kernel
theorem dX11_setProgram_106 : decode cX11_setProgram 106 = .ok (.ireturn, 1) := by decide +kernel
set_option maxRecDepth 20000 in
theorem ggX11_clearProgram_X11_requireEntrantAndRound : GoodIn wsX11_clearProgram wsX11_requireEntrantAndRound := goodIn_ca (goodIn_r _ [7, 8, 9, 10, 6, 11, 2, 12, 13, 14, 15, 16, 17, 18, 19, 20, 21, 22, 23, 24, 25, 26, 27, 28, 139, 140, 141, 142, 143, 144, 145, 146, 147, 148, 149, 150, 151, 152, 153, 154, 155, 156, 157] (by decide +kernel) (by decide +kernel)) (goodIn_sub (fun _ h => List.mem_cons_of_mem _ (List.mem_append_right _ h)) (by decide +kernel))
set_option maxRecDepth 20000 in
theorem gX11_clearProgram_X11_requireEntrantAndRound : GoodIn wsX11_clearProgram (wsV RX11 129 RX11 yX11_requireEntrantAndRound wsX11_requireEntrantAndRound) := goodIn_app (goodIn_of _ (by decide +kernel)) ggX11_clearProgram_X11_requireEntrantAndRound
set_option maxRecDepth 20000 in
theorem ggX11_clearProgram_X5_keep : GoodIn wsX11_clearProgram wsX5_keep := goodIn_r _ [33, 34, 35, 36, 37, 38, 32, 39, 40, 41, 42, 43, 44, 45, 46, 47, 48, 49, 50, 51, 52, 53, 54, 55, 56, 57, 58, 59, 60, 61, 62, 63, 64, 65, 66, 67, 6, 68, 69, 70, 71, 72, 73, 74, 75, 76, 77, 78, 79, 15, 80, 17, 81, 82, 83, 84, 85, 86, 87, 88, 89, 90, 91, 92, 93, 94, 95, 96, 97, 98, 99, 100, 101, 102, 103, 104, 105, 106, 107, 108, 109, 110, 111, 112, 113, 114, 115, 116, 117, 118, 119, 120, 121, 122, 158, 159, 142, 143, 144, 145, 146, 147, 148, 149, 150, 151, 152, 153, 154, 155, 160, 161, 162, 163, 156, 157, 164, 165, 166, 167, 168, 169, 170, 171, 172, 173, 174, 175, 176] (by decide +kernel) (by decide +kernel)
set_option maxRecDepth 20000 in
theorem gX11_clearProgram_X5_keep : GoodIn wsX11_clearProgram (wsV RX11 54 RX5 yX5_keep wsX5_keep) := goodIn_app (goodIn_of _ (by decide +kernel)) ggX11_clearProgram_X5_keep
set_option maxRecDepth 20000 in
theorem ggX11_clearProgram_X4_sizeOf : GoodIn wsX11_clearProgram wsX4_sizeOf := goodIn_r _ [126, 127, 128, 129, 87, 130, 89, 164] (by decide +kernel) (by decide +kernel)
set_option maxRecDepth 20000 in
theorem gX11_clearProgram_X4_sizeOf : GoodIn wsX11_clearProgram (wsV RX11 154 RX4 yX4_sizeOf wsX4_sizeOf) := goodIn_app (goodIn_of _ (by decide +kernel)) ggX11_clearProgram_X4_sizeOf
set_option maxRecDepth 20000 in
theorem ggX11_clearProgram_X4_empty : GoodIn wsX11_clearProgram wsX4_empty := goodIn_r _ [134, 135, 136, 137, 87, 138, 89, 164] (by decide +kernel) (by decide +kernel)
set_option maxRecDepth 20000 in
theorem gX11_clearProgram_X4_empty : GoodIn wsX11_clearProgram (wsV RX11 139 RX4 yX4_empty wsX4_empty) := goodIn_app (goodIn_of _ (by decide +kernel)) ggX11_clearProgram_X4_empty
theorem dX11_clearProgram_0 : decode cX11_clearProgram 0 = .ok (.aload_n 0, 1) := by decide +kernel
theorem dX11_clearProgram_1 : decode cX11_clearProgram 1 = .ok (.iload_n 1, 1) := by decide +kernel
theorem dX11_clearProgram_2 : decode cX11_clearProgram 2 = .ok (.iload_n 2, 1) := by decide +kernel
theorem dX11_clearProgram_3 : decode cX11_clearProgram 3 = .ok (.invokevirtual 129, 3) := by decide +kernel
theorem dX11_clearProgram_6 : decode cX11_clearProgram 6 = .ok (.aload_n 0, 1) := by decide +kernel
theorem dX11_clearProgram_7 : decode cX11_clearProgram 7 = .ok (.getfield 19, 3) := by decide +kernel
theorem dX11_clearProgram_10 : decode cX11_clearProgram 10 = .ok (.aload_n 0, 1) := by decide +kernel
theorem dX11_clearProgram_11 : decode cX11_clearProgram 11 = .ok (.getfield 10, 3) := by decide +kernel
theorem dX11_clearProgram_14 : decode cX11_clearProgram 14 = .ok (.invokevirtual 54, 3) := by decide +kernel
theorem dX11_clearProgram_17 : decode cX11_clearProgram 17 = .ok (.aload_n 0, 1) := by decide +kernel
theorem dX11_clearProgram_18 : decode cX11_clearProgram 18 = .ok (.getfield 10, 3) := by decide +kernel
theorem dX11_clearProgram_21 : decode cX11_clearProgram 21 = .ok (.getfield 135, 3) := by decide +kernel
theorem dX11_clearProgram_24 : decode cX11_clearProgram 24 = .ok (.iload_n 1, 1) := by decide +kernel
theorem dX11_clearProgram_25 : decode cX11_clearProgram 25 = .ok (.iload_n 2, 1) := by decide +kernel
theorem dX11_clearProgram_26 : decode cX11_clearProgram 26 = .ok (.invokevirtual 154, 3) := by decide +kernel
theorem dX11_clearProgram_29 : decode cX11_clearProgram 29 = .ok (.istore_n 3, 1) := by decide +kernel
theorem dX11_clearProgram_30 : decode cX11_clearProgram 30 = .ok (.aload_n 0, 1) := by decide +kernel
theorem dX11_clearProgram_31 : decode cX11_clearProgram 31 = .ok (.getfield 10, 3) := by decide +kernel
theorem dX11_clearProgram_34 : decode cX11_clearProgram 34 = .ok (.getfield 135, 3) := by decide +kernel
theorem dX11_clearProgram_37 : decode cX11_clearProgram 37 = .ok (.iload_n 1, 1) := by decide +kernel
theorem dX11_clearProgram_38 : decode cX11_clearProgram 38 = .ok (.iload_n 2, 1) := by decide +kernel
theorem dX11_clearProgram_39 : decode cX11_clearProgram 39 = .ok (.invokevirtual 139, 3) := by decide +kernel
theorem dX11_clearProgram_42 : decode cX11_clearProgram 42 = .ok (.iload_n 3, 1) := by decide +kernel
theorem dX11_clearProgram_43 : decode cX11_clearProgram 43 = .ok (.ireturn, 1) := by decide +kernel
set_option maxRecDepth 20000 in
theorem ggX11_program_X11_requireEntrantAndRound : GoodIn wsX11_program wsX11_requireEntrantAndRound := goodIn_ca (goodIn_r _ [6, 7, 8, 9, 5, 10, 1, 11, 12, 13, 14, 15, 16, 17, 18, 19, 20, 21, 22, 23, 24, 25, 26, 27, 34, 35, 36, 37, 38, 39, 40, 41, 42, 43, 44, 45, 46, 47, 48, 49, 50, 51, 52] (by decide +kernel) (by decide +kernel)) (goodIn_sub (fun _ h => List.mem_cons_of_mem _ (List.mem_append_right _ h)) (by decide +kernel))
set_option maxRecDepth 20000 in
theorem gX11_program_X11_requireEntrantAndRound : GoodIn wsX11_program (wsV RX11 129 RX11 yX11_requireEntrantAndRound wsX11_requireEntrantAndRound) := goodIn_app (goodIn_of _ (by decide +kernel)) ggX11_program_X11_requireEntrantAndRound
set_option maxRecDepth 20000 in
theorem ggX11_program_X4_workAt : GoodIn wsX11_program wsX4_workAt := goodIn_r _ [32, 33, 53] (by decide +kernel) (by decide +kernel)
set_option maxRecDepth 20000 in
theorem gX11_program_X4_workAt : GoodIn wsX11_program (wsV RX11 157 RX4 yX4_workAt wsX4_workAt) := goodIn_app (goodIn_of _ (by decide +kernel)) ggX11_program_X4_workAt
theorem dX11_program_0 : decode cX11_program 0 = .ok (.aload_n 0, 1) := by decide +kernel
theorem dX11_program_1 : decode cX11_program 1 = .ok (.iload_n 1, 1) := by decide +kernel
theorem dX11_program_2 : decode cX11_program 2 = .ok (.iload_n 2, 1) := by decide +kernel
theorem dX11_program_3 : decode cX11_program 3 = .ok (.invokevirtual 129, 3) := by decide +kernel
theorem dX11_program_6 : decode cX11_program 6 = .ok (.aload_n 0, 1) := by decide +kernel
theorem dX11_program_7 : decode cX11_program 7 = .ok (.getfield 10, 3) := by decide +kernel
theorem dX11_program_10 : decode cX11_program 10 = .ok (.getfield 135, 3) := by decide +kernel
theorem dX11_program_13 : decode cX11_program 13 = .ok (.iload_n 1, 1) := by decide +kernel
theorem dX11_program_14 : decode cX11_program 14 = .ok (.iload_n 2, 1) := by decide +kernel
theorem dX11_program_15 : decode cX11_program 15 = .ok (.iload_n 3, 1) := by decide +kernel
theorem dX11_program_16 : decode cX11_program 16 = .ok (.invokevirtual 157, 3) := by decide +kernel
theorem dX11_program_19 : decode cX11_program 19 = .ok (.ireturn, 1) := by decide +kernel
set_option maxRecDepth 20000 in
theorem ggX11_flaw_X11_requireEntrantAndRound : GoodIn wsX11_flaw wsX11_requireEntrantAndRound := goodIn_ca (goodIn_r _ [6, 7, 8, 9, 5, 10, 1, 11, 12, 13, 14, 15, 16, 17, 18, 19, 20, 21, 22, 23, 24, 25, 26, 27, 87, 88, 89, 90, 91, 92, 93, 94, 95, 96, 97, 98, 99, 100, 101, 102, 103, 104, 105] (by decide +kernel) (by decide +kernel)) (goodIn_sub (fun _ h => List.mem_cons_of_mem _ (List.mem_append_right _ h)) (by decide +kernel))
set_option maxRecDepth 20000 in
theorem gX11_flaw_X11_requireEntrantAndRound : GoodIn wsX11_flaw (wsV RX11 129 RX11 yX11_requireEntrantAndRound wsX11_requireEntrantAndRound) := goodIn_app (goodIn_of _ (by decide +kernel)) ggX11_flaw_X11_requireEntrantAndRound
set_option maxRecDepth 20000 in
theorem ggX11_flaw_X4_flawOf : GoodIn wsX11_flaw wsX4_flawOf := goodIn_r _ [32, 33, 34, 35, 31, 36, 37, 38, 39, 40, 41, 42, 43, 44, 45, 46, 47, 48, 49, 50, 51, 52, 53, 54, 55, 56, 57, 58, 59, 60, 61, 62, 63, 64, 65, 66, 67, 68, 69, 70, 71, 72, 73, 74, 75, 76, 77, 78, 79, 80, 81, 82, 83, 84, 85, 86, 106, 107, 108, 109, 110] (by decide +kernel) (by decide +kernel)
set_option maxRecDepth 20000 in
theorem gX11_flaw_X4_flawOf : GoodIn wsX11_flaw (wsV RX11 160 RX4 yX4_flawOf wsX4_flawOf) := goodIn_app (goodIn_of _ (by decide +kernel)) ggX11_flaw_X4_flawOf
theorem dX11_flaw_0 : decode cX11_flaw 0 = .ok (.aload_n 0, 1) := by decide +kernel
theorem dX11_flaw_1 : decode cX11_flaw 1 = .ok (.iload_n 1, 1) := by decide +kernel
theorem dX11_flaw_2 : decode cX11_flaw 2 = .ok (.iload_n 2, 1) := by decide +kernel
theorem dX11_flaw_3 : decode cX11_flaw 3 = .ok (.invokevirtual 129, 3) := by decide +kernel
theorem dX11_flaw_6 : decode cX11_flaw 6 = .ok (.aload_n 0, 1) := by decide +kernel
theorem dX11_flaw_7 : decode cX11_flaw 7 = .ok (.getfield 10, 3) := by decide +kernel
theorem dX11_flaw_10 : decode cX11_flaw 10 = .ok (.getfield 135, 3) := by decide +kernel
theorem dX11_flaw_13 : decode cX11_flaw 13 = .ok (.iload_n 1, 1) := by decide +kernel
theorem dX11_flaw_14 : decode cX11_flaw 14 = .ok (.iload_n 2, 1) := by decide +kernel
theorem dX11_flaw_15 : decode cX11_flaw 15 = .ok (.aload_n 0, 1) := by decide +kernel
theorem dX11_flaw_16 : decode cX11_flaw 16 = .ok (.getfield 10, 3) := by decide +kernel
theorem dX11_flaw_19 : decode cX11_flaw 19 = .ok (.getfield 125, 3) := by decide +kernel
theorem dX11_flaw_22 : decode cX11_flaw 22 = .ok (.aload_n 0, 1) := by decide +kernel
theorem dX11_flaw_23 : decode cX11_flaw 23 = .ok (.getfield 10, 3) := by decide +kernel
theorem dX11_flaw_26 : decode cX11_flaw 26 = .ok (.getfield 42, 3) := by decide +kernel
theorem dX11_flaw_29 : decode cX11_flaw 29 = .ok (.invokevirtual 160, 3) := by decide +kernel
theorem dX11_flaw_32 : decode cX11_flaw 32 = .ok (.ireturn, 1) := by decide +kernel
set_option maxRecDepth 20000 in
theorem ggX11_begin_X11_requireArgument : GoodIn wsX11_begin wsX11_requireArgument := goodIn_ca (goodIn_r _ [6, 7, 8] (by decide +kernel) (by decide +kernel)) (goodIn_sub (fun _ h => List.mem_cons_of_mem _ (List.mem_append_left _ (List.mem_append_right _ h))) (by decide +kernel))
set_option maxRecDepth 20000 in
theorem gX11_begin_X11_requireArgument : GoodIn wsX11_begin (va_wsS RX11 34 yX11_requireArgument wsX11_requireArgument) := goodIn_app (goodIn_of _ (by decide +kernel)) ggX11_begin_X11_requireArgument
set_option maxRecDepth 20000 in
theorem ggX11_begin_X11_requireState : GoodIn wsX11_begin wsX11_requireState := goodIn_ca (goodIn_r _ [11, 12, 13] (by decide +kernel) (by decide +kernel)) (goodIn_sub (fun _ h => List.mem_cons_of_mem _ (List.mem_append_right _ h)) (by decide +kernel))
set_option maxRecDepth 20000 in
theorem gX11_begin_X11_requireState : GoodIn wsX11_begin (va_wsS RX11 51 yX11_requireState wsX11_requireState) := goodIn_app (goodIn_of _ (by decide +kernel)) ggX11_begin_X11_requireState
set_option maxRecDepth 20000 in
theorem ggX11_begin_X5_keep : GoodIn wsX11_begin wsX5_keep := goodIn_r _ [18, 19, 20, 21, 22, 23, 17, 24, 25, 26, 27, 28, 29, 30, 31, 32, 33, 34, 35, 36, 37, 38, 39, 40, 41, 42, 43, 44, 45, 46, 47, 48, 49, 50, 51, 52, 5, 53, 54, 55, 56, 57, 58, 59, 60, 61, 62, 63, 64, 65, 66, 67, 68, 69, 70, 71, 72, 73, 74, 75, 76, 77, 78, 79, 80, 81, 82, 83, 84, 85, 86, 87, 88, 89, 90, 91, 92, 93, 94, 95, 96, 97, 98, 99, 100, 101, 102, 103, 104, 105, 106, 107, 108, 109, 230, 231, 211, 212, 213, 214, 215, 216, 217, 218, 219, 220, 221, 222, 223, 224, 232, 233, 234, 235, 236, 237, 238, 239, 240, 225, 226, 227, 228, 229, 241, 242, 243, 244, 245] (by decide +kernel) (by decide +kernel)
set_option maxRecDepth 20000 in
theorem gX11_begin_X5_keep : GoodIn wsX11_begin (wsV RX11 54 RX5 yX5_keep wsX5_keep) := goodIn_app (goodIn_of _ (by decide +kernel)) ggX11_begin_X5_keep
set_option maxRecDepth 20000 in
theorem ggX11_begin_X0_startRound : GoodIn wsX11_begin wsX0_startRound := goodIn_r _ [113, 31, 39, 40, 35, 37, 36, 34, 30, 114, 115, 116, 87, 117, 89, 90, 93, 118, 119, 120, 121, 122, 123, 124, 97, 125, 99, 126, 127, 128, 129, 65, 130, 68, 131, 132, 133, 134, 67, 135, 136, 137, 74, 138, 139, 140, 141, 142, 143, 144, 145, 146, 76, 147, 148, 149, 150, 151, 152, 153, 46, 154, 51, 155, 156, 157, 158, 48, 159, 160, 161, 162, 163, 164, 165, 166, 50, 167, 168, 169, 170, 171, 172, 56, 173, 174, 175, 176, 177, 49, 178, 179, 180, 181, 182, 183, 184, 185, 186, 187, 188, 189, 92, 190, 191, 192, 193, 194, 195, 196, 197, 91, 198, 199, 200, 201, 202, 203, 204, 205, 206, 5, 207, 211, 212, 213, 214, 215, 216, 217, 218, 219, 220, 221, 222, 223, 224, 236, 237, 225, 226, 227, 228, 229, 241, 238, 232, 233, 234, 235] (by decide +kernel) (by decide +kernel)
set_option maxRecDepth 20000 in
theorem gX11_begin_X0_startRound : GoodIn wsX11_begin (wsV RX11 174 RX0 yX0_startRound wsX0_startRound) := goodIn_app (goodIn_of _ (by decide +kernel)) ggX11_begin_X0_startRound
theorem dX11_begin_0 : decode cX11_begin 0 = .ok (.iload_n 1, 1) := by decide +kernel
theorem dX11_begin_1 : decode cX11_begin 1 = .ok (.ifCond .lt 7, 3) := by decide +kernel
theorem dX11_begin_4 : decode cX11_begin 4 = .ok (.iconst 1, 1) := by decide +kernel
theorem dX11_begin_5 : decode cX11_begin 5 = .ok (.goto 4, 3) := by decide +kernel
theorem dX11_begin_8 : decode cX11_begin 8 = .ok (.iconst 0, 1) := by decide +kernel
theorem dX11_begin_9 : decode cX11_begin 9 = .ok (.invokestatic 34, 3) := by decide +kernel
theorem dX11_begin_12 : decode cX11_begin 12 = .ok (.aload_n 0, 1) := by decide +kernel
theorem dX11_begin_13 : decode cX11_begin 13 = .ok (.getfield 10, 3) := by decide +kernel
theorem dX11_begin_16 : decode cX11_begin 16 = .ok (.getfield 38, 3) := by decide +kernel
theorem dX11_begin_19 : decode cX11_begin 19 = .ok (.ifCond .ne 7, 3) := by decide +kernel
theorem dX11_begin_22 : decode cX11_begin 22 = .ok (.iconst 1, 1) := by decide +kernel
theorem dX11_begin_23 : decode cX11_begin 23 = .ok (.goto 4, 3) := by decide +kernel
theorem dX11_begin_26 : decode cX11_begin 26 = .ok (.iconst 0, 1) := by decide +kernel
theorem dX11_begin_27 : decode cX11_begin 27 = .ok (.invokestatic 51, 3) := by decide +kernel
theorem dX11_begin_30 : decode cX11_begin 30 = .ok (.aload_n 0, 1) := by decide +kernel
theorem dX11_begin_31 : decode cX11_begin 31 = .ok (.getfield 19, 3) := by decide +kernel
theorem dX11_begin_34 : decode cX11_begin 34 = .ok (.aload_n 0, 1) := by decide +kernel
theorem dX11_begin_35 : decode cX11_begin 35 = .ok (.getfield 10, 3) := by decide +kernel
theorem dX11_begin_38 : decode cX11_begin 38 = .ok (.invokevirtual 54, 3) := by decide +kernel
theorem dX11_begin_41 : decode cX11_begin 41 = .ok (.aload_n 0, 1) := by decide +kernel
theorem dX11_begin_42 : decode cX11_begin 42 = .ok (.getfield 10, 3) := by decide +kernel
theorem dX11_begin_45 : decode cX11_begin 45 = .ok (.getfield 164, 3) := by decide +kernel
theorem dX11_begin_48 : decode cX11_begin 48 = .ok (.iload_n 1, 1) := by decide +kernel
theorem dX11_begin_49 : decode cX11_begin 49 = .ok (.i2l, 1) := by decide +kernel
theorem dX11_begin_50 : decode cX11_begin 50 = .ok (.putfield 168, 3) := by decide +kernel
theorem dX11_begin_53 : decode cX11_begin 53 = .ok (.aload_n 0, 1) := by decide +kernel
theorem dX11_begin_54 : decode cX11_begin 54 = .ok (.getfield 10, 3) := by decide +kernel
theorem dX11_begin_57 : decode cX11_begin 57 = .ok (.iconst 0, 1) := by decide +kernel
theorem dX11_begin_58 : decode cX11_begin 58 = .ok (.invokevirtual 174, 3) := by decide +kernel
theorem dX11_begin_61 : decode cX11_begin 61 = .ok (.aload_n 0, 1) := by decide +kernel
theorem dX11_begin_62 : decode cX11_begin 62 = .ok (.getfield 10, 3) := by decide +kernel
theorem dX11_begin_65 : decode cX11_begin 65 = .ok (.getfield 164, 3) := by decide +kernel
theorem dX11_begin_68 : decode cX11_begin 68 = .ok (.getfield 177, 3) := by decide +kernel
theorem dX11_begin_71 : decode cX11_begin 71 = .ok (.ireturn, 1) := by decide +kernel
set_option maxRecDepth 20000 in
theorem ggX11_play_X11_isBetween : GoodIn wsX11_play wsX11_isBetween := goodIn_r _ [6] (by decide +kernel) (by decide +kernel)
set_option maxRecDepth 20000 in
theorem gX11_play_X11_isBetween : GoodIn wsX11_play (va_wsS RX11 30 yX11_isBetween wsX11_isBetween) := goodIn_app (goodIn_of _ (by decide +kernel)) ggX11_play_X11_isBetween
set_option maxRecDepth 20000 in
theorem ggX11_play_X11_requireArgument : GoodIn wsX11_play wsX11_requireArgument := goodIn_ca (goodIn_r _ [9, 10, 11] (by decide +kernel) (by decide +kernel)) (goodIn_sub (fun _ h => List.mem_cons_of_mem _ (List.mem_append_left _ (List.mem_append_right _ h))) (by decide +kernel))
set_option maxRecDepth 20000 in
theorem gX11_play_X11_requireArgument : GoodIn wsX11_play (va_wsS RX11 34 yX11_requireArgument wsX11_requireArgument) := goodIn_app (goodIn_of _ (by decide +kernel)) ggX11_play_X11_requireArgument
set_option maxRecDepth 20000 in
theorem ggX11_play_X11_requireState : GoodIn wsX11_play wsX11_requireState := goodIn_ca (goodIn_r _ [14, 15, 16] (by decide +kernel) (by decide +kernel)) (goodIn_sub (fun _ h => List.mem_cons_of_mem _ (List.mem_append_right _ h)) (by decide +kernel))
set_option maxRecDepth 20000 in
theorem gX11_play_X11_requireState : GoodIn wsX11_play (va_wsS RX11 51 yX11_requireState wsX11_requireState) := goodIn_app (goodIn_of _ (by decide +kernel)) ggX11_play_X11_requireState
set_option maxRecDepth 20000 in
theorem ggX11_play_X5_keep : GoodIn wsX11_play wsX5_keep := goodIn_r _ [21, 22, 23, 24, 25, 26, 20, 27, 28, 29, 30, 31, 32, 33, 34, 35, 36, 37, 38, 39, 40, 41, 42, 43, 44, 45, 46, 47, 48, 49, 50, 51, 52, 53, 54, 55, 5, 56, 57, 58, 59, 60, 61, 62, 63, 64, 65, 66, 67, 68, 69, 70, 71, 72, 73, 74, 75, 76, 77, 78, 79, 80, 81, 82, 83, 84, 85, 86, 87, 88, 89, 90, 91, 92, 93, 94, 95, 96, 97, 98, 99, 100, 101, 102, 103, 104, 105, 106, 107, 108, 109, 110, 111, 112, 143, 144, 124, 125, 126, 127, 128, 129, 130, 131, 132, 133, 134, 135, 136, 137, 145, 146, 147, 148, 149, 150, 151, 152, 153, 138, 139, 140, 141, 142, 154, 155, 156, 157, 158] (by decide +kernel) (by decide +kernel)
set_option maxRecDepth 20000 in
theorem gX11_play_X5_keep : GoodIn wsX11_play (wsV RX11 54 RX5 yX5_keep wsX5_keep) := goodIn_app (goodIn_of _ (by decide +kernel)) ggX11_play_X5_keep
set_option maxRecDepth 20000 in
theorem ggX11_play_X7_letNextPlay : GoodIn wsX11_play wsX7_letNextPlay := goodIn_r _ [116, 93, 96, 117, 118, 119, 90, 120, 92, 95, 4, 5, 6, 138, 139, 140, 141, 142] (by decide +kernel) (by decide +kernel)
set_option maxRecDepth 20000 in
theorem gX11_play_X7_letNextPlay : GoodIn wsX11_play (wsV RX11 183 RX7 yX7_letNextPlay wsX7_letNextPlay) := goodIn_app (goodIn_of _ (by decide +kernel)) ggX11_play_X7_letNextPlay
theorem dX11_play_0 : decode cX11_play 0 = .ok (.iload_n 1, 1) := by decide +kernel
theorem dX11_play_1 : decode cX11_play 1 = .ok (.iconst 0, 1) := by decide +kernel
theorem dX11_play_2 : decode cX11_play 2 = .ok (.bipush 20, 2) := by decide +kernel
theorem dX11_play_4 : decode cX11_play 4 = .ok (.invokestatic 30, 3) := by decide +kernel
theorem dX11_play_7 : decode cX11_play 7 = .ok (.invokestatic 34, 3) := by decide +kernel
theorem dX11_play_10 : decode cX11_play 10 = .ok (.aload_n 0, 1) := by decide +kernel
theorem dX11_play_11 : decode cX11_play 11 = .ok (.getfield 10, 3) := by decide +kernel
theorem dX11_play_14 : decode cX11_play 14 = .ok (.getfield 38, 3) := by decide +kernel
theorem dX11_play_17 : decode cX11_play 17 = .ok (.iconst 1, 1) := by decide +kernel
theorem dX11_play_18 : decode cX11_play 18 = .ok (.if_icmp .ne 30, 3) := by decide +kernel
theorem dX11_play_21 : decode cX11_play 21 = .ok (.aload_n 0, 1) := by decide +kernel
theorem dX11_play_22 : decode cX11_play 22 = .ok (.getfield 10, 3) := by decide +kernel
theorem dX11_play_25 : decode cX11_play 25 = .ok (.getfield 164, 3) := by decide +kernel
theorem dX11_play_28 : decode cX11_play 28 = .ok (.getfield 180, 3) := by decide +kernel
theorem dX11_play_31 : decode cX11_play 31 = .ok (.aload_n 0, 1) := by decide +kernel
theorem dX11_play_32 : decode cX11_play 32 = .ok (.getfield 10, 3) := by decide +kernel
theorem dX11_play_35 : decode cX11_play 35 = .ok (.getfield 164, 3) := by decide +kernel
theorem dX11_play_38 : decode cX11_play 38 = .ok (.getfield 177, 3) := by decide +kernel
theorem dX11_play_41 : decode cX11_play 41 = .ok (.if_icmp .ge 7, 3) := by decide +kernel
theorem dX11_play_44 : decode cX11_play 44 = .ok (.iconst 1, 1) := by decide +kernel
theorem dX11_play_45 : decode cX11_play 45 = .ok (.goto 4, 3) := by decide +kernel
theorem dX11_play_48 : decode cX11_play 48 = .ok (.iconst 0, 1) := by decide +kernel
theorem dX11_play_49 : decode cX11_play 49 = .ok (.invokestatic 51, 3) := by decide +kernel
theorem dX11_play_52 : decode cX11_play 52 = .ok (.aload_n 0, 1) := by decide +kernel
theorem dX11_play_53 : decode cX11_play 53 = .ok (.getfield 19, 3) := by decide +kernel
theorem dX11_play_56 : decode cX11_play 56 = .ok (.aload_n 0, 1) := by decide +kernel
theorem dX11_play_57 : decode cX11_play 57 = .ok (.getfield 10, 3) := by decide +kernel
theorem dX11_play_60 : decode cX11_play 60 = .ok (.invokevirtual 54, 3) := by decide +kernel
theorem dX11_play_63 : decode cX11_play 63 = .ok (.aload_n 0, 1) := by decide +kernel
theorem dX11_play_64 : decode cX11_play 64 = .ok (.getfield 10, 3) := by decide +kernel
theorem dX11_play_67 : decode cX11_play 67 = .ok (.getfield 164, 3) := by decide +kernel
theorem dX11_play_70 : decode cX11_play 70 = .ok (.iload_n 1, 1) := by decide +kernel
theorem dX11_play_71 : decode cX11_play 71 = .ok (.invokevirtual 183, 3) := by decide +kernel
theorem dX11_play_74 : decode cX11_play 74 = .ok (.ireturn, 1) := by decide +kernel
set_option maxRecDepth 20000 in
theorem ggX11_mark_X11_requireJurorAndEntrant : GoodIn wsX11_mark wsX11_requireJurorAndEntrant := goodIn_ca (goodIn_r _ [6, 1, 7, 8, 9, 10, 11, 12, 13, 14, 5, 15, 16, 17, 18, 19, 20, 21, 22, 23, 24, 25, 26, 27, 184, 185, 186, 187, 188, 189, 190, 191, 192, 193, 194, 195, 196, 197, 198, 199, 200, 201, 202, 203, 204] (by decide +kernel) (by decide +kernel)) (goodIn_sub (fun _ h => List.mem_cons_of_mem _ (List.mem_append_left _ (List.mem_append_left _ (List.mem_append_right _ h)))) (by decide +kernel))
set_option maxRecDepth 20000 in
theorem gX11_mark_X11_requireJurorAndEntrant : GoodIn wsX11_mark (wsV RX11 83 RX11 yX11_requireJurorAndEntrant wsX11_requireJurorAndEntrant) := goodIn_app (goodIn_of _ (by decide +kernel)) ggX11_mark_X11_requireJurorAndEntrant
set_option maxRecDepth 20000 in
theorem ggX11_mark_X11_isBetween : GoodIn wsX11_mark wsX11_isBetween := goodIn_r _ [30] (by decide +kernel) (by decide +kernel)
set_option maxRecDepth 20000 in
theorem gX11_mark_X11_isBetween : GoodIn wsX11_mark (va_wsS RX11 30 yX11_isBetween wsX11_isBetween) := goodIn_app (goodIn_of _ (by decide +kernel)) ggX11_mark_X11_isBetween
set_option maxRecDepth 20000 in
theorem ggX11_mark_X11_requireArgument : GoodIn wsX11_mark wsX11_requireArgument := goodIn_ca (goodIn_r _ [33, 34, 35] (by decide +kernel) (by decide +kernel)) (goodIn_sub (fun _ h => List.mem_cons_of_mem _ (List.mem_append_left _ (List.mem_append_right _ h))) (by decide +kernel))
set_option maxRecDepth 20000 in
theorem gX11_mark_X11_requireArgument : GoodIn wsX11_mark (va_wsS RX11 34 yX11_requireArgument wsX11_requireArgument) := goodIn_app (goodIn_of _ (by decide +kernel)) ggX11_mark_X11_requireArgument
set_option maxRecDepth 20000 in
theorem ggX11_mark_X11_enter : GoodIn wsX11_mark wsX11_enter := goodIn_ca (goodIn_r _ [39, 1, 40, 41, 42, 43, 44, 45, 46, 47, 48, 49, 50, 51, 52, 53, 54, 29, 5, 30, 55, 56, 57, 58, 59, 60, 61, 62, 63, 64, 65, 66, 67, 10, 68, 69, 70, 71, 72, 73, 74, 75, 76, 77, 78, 79, 80, 81, 82, 83, 84, 85, 86, 87, 88, 89, 90, 91, 92, 93, 94, 95, 96, 97, 98, 99, 100, 101, 102, 103, 104, 105, 106, 107, 108, 109, 110, 111, 112, 113, 114, 115, 116, 117, 118, 119, 120, 121, 25, 122, 27, 123, 124, 125, 126, 127, 128, 129, 130, 131, 132, 133, 134, 135, 12, 136, 137, 138, 139, 140, 141, 142, 143, 144, 145, 146, 147, 148, 149, 150, 151, 152, 153, 154, 155, 156, 157, 158, 159, 160, 161, 162, 163, 164, 165, 166, 167, 168, 169, 170, 171, 172, 173, 174, 175, 176, 177, 178, 179, 180, 181, 182, 183, 184, 185, 186, 187, 188, 189, 190, 191, 192, 193, 194, 195, 196, 197, 198, 199, 200, 205, 206, 207, 208, 209, 210, 211, 212, 213, 201, 202, 214, 215, 216, 217, 218, 219, 203, 204, 220, 221] (by decide +kernel) (by decide +kernel)) (goodIn_sub (fun _ h => List.mem_cons_of_mem _ (List.mem_append_right _ h)) (by decide +kernel))
set_option maxRecDepth 20000 in
theorem gX11_mark_X11_enter : GoodIn wsX11_mark (wsV RX11 186 RX11 yX11_enter wsX11_enter) := goodIn_app (goodIn_of _ (by decide +kernel)) ggX11_mark_X11_enter
theorem dX11_mark_0 : decode cX11_mark 0 = .ok (.aload_n 0, 1) := by decide +kernel
theorem dX11_mark_1 : decode cX11_mark 1 = .ok (.iload_n 1, 1) := by decide +kernel
theorem dX11_mark_2 : decode cX11_mark 2 = .ok (.iload_n 2, 1) := by decide +kernel
theorem dX11_mark_3 : decode cX11_mark 3 = .ok (.invokevirtual 83, 3) := by decide +kernel
theorem dX11_mark_6 : decode cX11_mark 6 = .ok (.iload_n 3, 1) := by decide +kernel
theorem dX11_mark_7 : decode cX11_mark 7 = .ok (.iconst 0, 1) := by decide +kernel
theorem dX11_mark_8 : decode cX11_mark 8 = .ok (.aload_n 0, 1) := by decide +kernel
theorem dX11_mark_9 : decode cX11_mark 9 = .ok (.getfield 10, 3) := by decide +kernel
theorem dX11_mark_12 : decode cX11_mark 12 = .ok (.getfield 38, 3) := by decide +kernel
theorem dX11_mark_15 : decode cX11_mark 15 = .ok (.iconst 2, 1) := by decide +kernel
theorem dX11_mark_16 : decode cX11_mark 16 = .ok (.if_icmp .ne 8, 3) := by decide +kernel
theorem dX11_mark_19 : decode cX11_mark 19 = .ok (.bipush 10, 2) := by decide +kernel
theorem dX11_mark_21 : decode cX11_mark 21 = .ok (.goto 5, 3) := by decide +kernel
theorem dX11_mark_24 : decode cX11_mark 24 = .ok (.bipush 100, 2) := by decide +kernel
theorem dX11_mark_26 : decode cX11_mark 26 = .ok (.invokestatic 30, 3) := by decide +kernel
theorem dX11_mark_29 : decode cX11_mark 29 = .ok (.invokestatic 34, 3) := by decide +kernel
theorem dX11_mark_32 : decode cX11_mark 32 = .ok (.aload_n 0, 1) := by decide +kernel
theorem dX11_mark_33 : decode cX11_mark 33 = .ok (.iload_n 1, 1) := by decide +kernel
theorem dX11_mark_34 : decode cX11_mark 34 = .ok (.iload_n 2, 1) := by decide +kernel
theorem dX11_mark_35 : decode cX11_mark 35 = .ok (.iload_n 3, 1) := by decide +kernel
theorem dX11_mark_36 : decode cX11_mark 36 = .ok (.invokevirtual 186, 3) := by decide +kernel
theorem dX11_mark_39 : decode cX11_mark 39 = .ok (.ireturn, 1) := by decide +kernel
set_option maxRecDepth 20000 in
theorem ggX11_abstain_X11_requireJurorAndEntrant : GoodIn wsX11_abstain wsX11_requireJurorAndEntrant := goodIn_ca (goodIn_r _ [5, 6, 7, 8, 9, 10, 11, 12, 13, 14, 4, 15, 16, 17, 18, 19, 20, 21, 22, 23, 24, 25, 26, 27, 178, 179, 180, 181, 182, 183, 184, 185, 186, 187, 188, 189, 190, 191, 192, 193, 194, 195, 196, 197, 198] (by decide +kernel) (by decide +kernel)) (goodIn_sub (fun _ h => List.mem_cons_of_mem _ (List.mem_append_left _ (List.mem_append_right _ h))) (by decide +kernel))
set_option maxRecDepth 20000 in
theorem gX11_abstain_X11_requireJurorAndEntrant : GoodIn wsX11_abstain (wsV RX11 83 RX11 yX11_requireJurorAndEntrant wsX11_requireJurorAndEntrant) := goodIn_app (goodIn_of _ (by decide +kernel)) ggX11_abstain_X11_requireJurorAndEntrant
set_option maxRecDepth 20000 in
theorem ggX11_abstain_X11_enter : GoodIn wsX11_abstain wsX11_enter := goodIn_ca (goodIn_r _ [31, 6, 32, 33, 34, 35, 36, 37, 38, 39, 40, 41, 42, 43, 44, 45, 46, 47, 4, 48, 49, 50, 51, 52, 53, 54, 55, 56, 57, 58, 59, 60, 61, 10, 62, 63, 64, 65, 66, 67, 68, 69, 70, 71, 72, 73, 74, 75, 76, 77, 78, 79, 80, 81, 82, 83, 84, 85, 86, 87, 88, 89, 90, 91, 92, 93, 94, 95, 96, 97, 98, 99, 100, 101, 102, 103, 104, 105, 106, 107, 108, 109, 110, 111, 112, 113, 114, 115, 25, 116, 27, 117, 118, 119, 120, 121, 122, 123, 124, 125, 126, 127, 128, 129, 12, 130, 131, 132, 133, 134, 135, 136, 137, 138, 139, 140, 141, 142, 143, 144, 145, 146, 147, 148, 149, 150, 151, 152, 153, 154, 155, 156, 157, 158, 159, 160, 161, 162, 163, 164, 165, 166, 167, 168, 169, 170, 171, 172, 173, 174, 175, 176, 177, 178, 179, 180, 181, 182, 183, 184, 185, 186, 187, 188, 189, 190, 191, 192, 193, 194, 199, 200, 201, 202, 203, 204, 205, 206, 207, 195, 196, 208, 209, 210, 211, 212, 213, 197, 198, 214, 215] (by decide +kernel) (by decide +kernel)) (goodIn_sub (fun _ h => List.mem_cons_of_mem _ (List.mem_append_right _ h)) (by decide +kernel))
set_option maxRecDepth 20000 in
theorem gX11_abstain_X11_enter : GoodIn wsX11_abstain (wsV RX11 186 RX11 yX11_enter wsX11_enter) := goodIn_app (goodIn_of _ (by decide +kernel)) ggX11_abstain_X11_enter
theorem dX11_abstain_0 : decode cX11_abstain 0 = .ok (.aload_n 0, 1) := by decide +kernel
theorem dX11_abstain_1 : decode cX11_abstain 1 = .ok (.iload_n 1, 1) := by decide +kernel
theorem dX11_abstain_2 : decode cX11_abstain 2 = .ok (.iload_n 2, 1) := by decide +kernel
theorem dX11_abstain_3 : decode cX11_abstain 3 = .ok (.invokevirtual 83, 3) := by decide +kernel
theorem dX11_abstain_6 : decode cX11_abstain 6 = .ok (.aload_n 0, 1) := by decide +kernel
theorem dX11_abstain_7 : decode cX11_abstain 7 = .ok (.iload_n 1, 1) := by decide +kernel
theorem dX11_abstain_8 : decode cX11_abstain 8 = .ok (.iload_n 2, 1) := by decide +kernel
theorem dX11_abstain_9 : decode cX11_abstain 9 = .ok (.bipush (-2), 2) := by decide +kernel
theorem dX11_abstain_11 : decode cX11_abstain 11 = .ok (.invokevirtual 186, 3) := by decide +kernel
theorem dX11_abstain_14 : decode cX11_abstain 14 = .ok (.ireturn, 1) := by decide +kernel
set_option maxRecDepth 20000 in
theorem ggX11_enter_X0_canBeMarked : GoodIn wsX11_enter wsX0_canBeMarked := goodIn_r _ [7, 8, 9, 10, 11, 12, 13, 14, 15, 16, 17, 18, 19, 20, 21, 22, 23, 24, 25, 26, 27, 28, 29, 156, 157, 158, 159, 160, 161, 162, 163, 164, 165, 166, 167, 168, 169, 170, 171, 172, 173, 174, 175, 176, 177, 178] (by decide +kernel) (by decide +kernel)
set_option maxRecDepth 20000 in
theorem gX11_enter_X0_canBeMarked : GoodIn wsX11_enter (wsV RX11 189 RX0 yX0_canBeMarked wsX0_canBeMarked) := goodIn_app (goodIn_of _ (by decide +kernel)) ggX11_enter_X0_canBeMarked
set_option maxRecDepth 20000 in
theorem ggX11_enter_X3_isBarred : GoodIn wsX11_enter wsX3_isBarred := goodIn_r _ [34, 35, 179, 180] (by decide +kernel) (by decide +kernel)
set_option maxRecDepth 20000 in
theorem gX11_enter_X3_isBarred : GoodIn wsX11_enter (wsV RX11 91 RX3 yX3_isBarred wsX3_isBarred) := goodIn_app (goodIn_of _ (by decide +kernel)) ggX11_enter_X3_isBarred
set_option maxRecDepth 20000 in
theorem ggX11_enter_X11_requireState : GoodIn wsX11_enter wsX11_requireState := goodIn_ca (goodIn_r _ [38, 39, 40] (by decide +kernel) (by decide +kernel)) (goodIn_sub (fun _ h => List.mem_cons_of_mem _ (List.mem_append_right _ h)) (by decide +kernel))
set_option maxRecDepth 20000 in
theorem gX11_enter_X11_requireState : GoodIn wsX11_enter (va_wsS RX11 51 yX11_requireState wsX11_requireState) := goodIn_app (goodIn_of _ (by decide +kernel)) ggX11_enter_X11_requireState
set_option maxRecDepth 20000 in
theorem ggX11_enter_X5_keep : GoodIn wsX11_enter wsX5_keep := goodIn_r _ [45, 46, 47, 48, 49, 50, 44, 51, 52, 53, 54, 6, 55, 8, 56, 57, 58, 59, 60, 61, 62, 63, 10, 64, 9, 65, 66, 67, 68, 69, 70, 71, 72, 73, 74, 75, 18, 76, 77, 78, 79, 80, 81, 82, 83, 84, 85, 86, 87, 88, 89, 90, 91, 92, 93, 94, 95, 96, 97, 98, 99, 100, 101, 102, 33, 103, 104, 35, 105, 106, 107, 23, 108, 109, 110, 111, 112, 29, 113, 114, 115, 116, 117, 118, 119, 120, 121, 14, 122, 123, 124, 16, 125, 126, 181, 182, 156, 157, 158, 159, 160, 161, 162, 163, 164, 165, 166, 167, 168, 169, 183, 184, 185, 186, 187, 188, 189, 179, 180, 174, 175, 176, 177, 178, 190, 170, 171, 172, 173] (by decide +kernel) (by decide +kernel)
set_option maxRecDepth 20000 in
theorem gX11_enter_X5_keep : GoodIn wsX11_enter (wsV RX11 54 RX5 yX5_keep wsX5_keep) := goodIn_app (goodIn_of _ (by decide +kernel)) ggX11_enter_X5_keep
set_option maxRecDepth 20000 in
theorem ggX11_enter_X0_openSheet : GoodIn wsX11_enter wsX0_openSheet := goodIn_r _ [130, 8, 9, 64, 156, 157, 158, 159, 160, 161, 162, 163, 164, 165, 166, 167, 168, 169, 170, 171, 172, 173] (by decide +kernel) (by decide +kernel)
set_option maxRecDepth 20000 in
theorem gX11_enter_X0_openSheet : GoodIn wsX11_enter (wsV RX11 192 RX0 yX0_openSheet wsX0_openSheet) := goodIn_app (goodIn_of _ (by decide +kernel)) ggX11_enter_X0_openSheet
set_option maxRecDepth 20000 in
theorem ggX11_enter_X6_put : GoodIn wsX11_enter wsX6_put := goodIn_r _ [134, 118, 190] (by decide +kernel) (by decide +kernel)
set_option maxRecDepth 20000 in
theorem gX11_enter_X6_put : GoodIn wsX11_enter (wsV RX11 196 RX6 yX6_put wsX6_put) := goodIn_app (goodIn_of _ (by decide +kernel)) ggX11_enter_X6_put
set_option maxRecDepth 20000 in
theorem ggX11_enter_X0_countedMarks : GoodIn wsX11_enter wsX0_countedMarks := goodIn_r _ [138, 63, 139, 128, 129, 6, 130, 8, 9, 64, 140, 141, 142, 33, 143, 104, 144, 145, 146, 147, 148, 149, 150, 116, 151, 118, 152, 31, 32, 34, 35, 156, 157, 158, 159, 160, 161, 162, 163, 164, 165, 166, 167, 168, 169, 170, 171, 172, 173, 179, 180, 190] (by decide +kernel) (by decide +kernel)
set_option maxRecDepth 20000 in
theorem gX11_enter_X0_countedMarks : GoodIn wsX11_enter (wsV RX11 201 RX0 yX0_countedMarks wsX0_countedMarks) := goodIn_app (goodIn_of _ (by decide +kernel)) ggX11_enter_X0_countedMarks
theorem dX11_enter_0 : decode cX11_enter 0 = .ok (.aload_n 0, 1) := by decide +kernel
theorem dX11_enter_1 : decode cX11_enter 1 = .ok (.getfield 10, 3) := by decide +kernel
theorem dX11_enter_4 : decode cX11_enter 4 = .ok (.iload_n 2, 1) := by decide +kernel
theorem dX11_enter_5 : decode cX11_enter 5 = .ok (.invokevirtual 189, 3) := by decide +kernel
theorem dX11_enter_8 : decode cX11_enter 8 = .ok (.ifCond .eq 22, 3) := by decide +kernel
theorem dX11_enter_11 : decode cX11_enter 11 = .ok (.aload_n 0, 1) := by decide +kernel
theorem dX11_enter_12 : decode cX11_enter 12 = .ok (.getfield 10, 3) := by decide +kernel
theorem dX11_enter_15 : decode cX11_enter 15 = .ok (.getfield 87, 3) := by decide +kernel
theorem dX11_enter_18 : decode cX11_enter 18 = .ok (.iload_n 1, 1) := by decide +kernel
theorem dX11_enter_19 : decode cX11_enter 19 = .ok (.iload_n 2, 1) := by decide +kernel
theorem dX11_enter_20 : decode cX11_enter 20 = .ok (.invokevirtual 91, 3) := by decide +kernel
theorem dX11_enter_23 : decode cX11_enter 23 = .ok (.ifCond .ne 7, 3) := by decide +kernel
theorem dX11_enter_26 : decode cX11_enter 26 = .ok (.iconst 1, 1) := by decide +kernel
theorem dX11_enter_27 : decode cX11_enter 27 = .ok (.goto 4, 3) := by decide +kernel
theorem dX11_enter_30 : decode cX11_enter 30 = .ok (.iconst 0, 1) := by decide +kernel
theorem dX11_enter_31 : decode cX11_enter 31 = .ok (.invokestatic 51, 3) := by decide +kernel
theorem dX11_enter_34 : decode cX11_enter 34 = .ok (.aload_n 0, 1) := by decide +kernel
theorem dX11_enter_35 : decode cX11_enter 35 = .ok (.getfield 19, 3) := by decide +kernel
theorem dX11_enter_38 : decode cX11_enter 38 = .ok (.aload_n 0, 1) := by decide +kernel
theorem dX11_enter_39 : decode cX11_enter 39 = .ok (.getfield 10, 3) := by decide +kernel
theorem dX11_enter_42 : decode cX11_enter 42 = .ok (.invokevirtual 54, 3) := by decide +kernel
theorem dX11_enter_45 : decode cX11_enter 45 = .ok (.aload_n 0, 1) := by decide +kernel
theorem dX11_enter_46 : decode cX11_enter 46 = .ok (.getfield 10, 3) := by decide +kernel
theorem dX11_enter_49 : decode cX11_enter 49 = .ok (.invokevirtual 192, 3) := by decide +kernel
theorem dX11_enter_52 : decode cX11_enter 52 = .ok (.iload_n 1, 1) := by decide +kernel
theorem dX11_enter_53 : decode cX11_enter 53 = .ok (.iload_n 2, 1) := by decide +kernel
theorem dX11_enter_54 : decode cX11_enter 54 = .ok (.iload_n 3, 1) := by decide +kernel
theorem dX11_enter_55 : decode cX11_enter 55 = .ok (.invokevirtual 196, 3) := by decide +kernel
theorem dX11_enter_58 : decode cX11_enter 58 = .ok (.aload_n 0, 1) := by decide +kernel
theorem dX11_enter_59 : decode cX11_enter 59 = .ok (.getfield 10, 3) := by decide +kernel
theorem dX11_enter_62 : decode cX11_enter 62 = .ok (.iload_n 2, 1) := by decide +kernel
theorem dX11_enter_63 : decode cX11_enter 63 = .ok (.invokevirtual 201, 3) := by decide +kernel
theorem dX11_enter_66 : decode cX11_enter 66 = .ok (.ireturn, 1) := by decide +kernel
set_option maxRecDepth 20000 in
theorem ggX11_close_X0_canBeClosed : GoodIn wsX11_close wsX0_canBeClosed := goodIn_r _ [7, 8, 9, 10, 11, 12, 13, 14, 15, 16, 17, 18, 19, 6, 20, 21, 22, 23, 24, 25, 26, 27, 28, 29, 30, 31, 32, 33, 34, 35, 36, 37, 38, 39, 40, 41, 42, 43, 44, 45, 46, 47, 48, 49, 50, 51, 52, 53, 54, 55, 56, 57, 58, 59, 60, 61, 62, 361, 362, 363, 364, 365, 366, 367, 368, 369, 370, 371, 372, 373, 374, 375, 376, 377, 378, 379, 380, 381, 382, 383, 384, 385, 386] (by decide +kernel) (by decide +kernel)
set_option maxRecDepth 20000 in
theorem gX11_close_X0_canBeClosed : GoodIn wsX11_close (wsV RX11 204 RX0 yX0_canBeClosed wsX0_canBeClosed) := goodIn_app (goodIn_of _ (by decide +kernel)) ggX11_close_X0_canBeClosed
set_option maxRecDepth 20000 in
theorem ggX11_close_X11_requireState : GoodIn wsX11_close wsX11_requireState := goodIn_ca (goodIn_r _ [65, 66, 67] (by decide +kernel) (by decide +kernel)) (goodIn_sub (fun _ h => List.mem_cons_of_mem _ (List.mem_append_right _ h)) (by decide +kernel))
set_option maxRecDepth 20000 in
theorem gX11_close_X11_requireState : GoodIn wsX11_close (va_wsS RX11 51 yX11_requireState wsX11_requireState) := goodIn_app (goodIn_of _ (by decide +kernel)) ggX11_close_X11_requireState
set_option maxRecDepth 20000 in
theorem ggX11_close_X5_keep : GoodIn wsX11_close wsX5_keep := goodIn_r _ [72, 73, 74, 75, 76, 77, 71, 78, 79, 80, 81, 6, 82, 8, 83, 84, 85, 86, 87, 88, 89, 22, 9, 53, 21, 90, 91, 92, 93, 94, 95, 96, 97, 98, 99, 100, 30, 101, 102, 103, 104, 105, 106, 107, 108, 109, 110, 111, 112, 113, 114, 115, 116, 117, 118, 119, 120, 121, 122, 123, 124, 125, 126, 127, 35, 128, 37, 42, 129, 130, 131, 13, 132, 15, 133, 134, 16, 62, 135, 136, 137, 46, 138, 48, 139, 140, 141, 26, 142, 143, 144, 28, 145, 146, 387, 388, 361, 362, 363, 364, 365, 366, 367, 368, 369, 370, 371, 372, 373, 374, 389, 390, 391, 392, 393, 394, 395, 384, 385, 375, 376, 377, 378, 379, 386, 380, 381, 382, 383] (by decide +kernel) (by decide +kernel)
set_option maxRecDepth 20000 in
theorem gX11_close_X5_keep : GoodIn wsX11_close (wsV RX11 54 RX5 yX5_keep wsX5_keep) := goodIn_app (goodIn_of _ (by decide +kernel)) ggX11_close_X5_keep
set_option maxRecDepth 20000 in
theorem ggX11_close_X0_decideRound : GoodIn wsX11_close wsX0_decideRound := goodIn_r _ [150, 83, 151, 90, 152, 153, 154, 6, 155, 9, 88, 156, 157, 158, 159, 160, 161, 162, 163, 164, 165, 10, 11, 12, 13, 14, 15, 16, 166, 167, 168, 169, 170, 171, 172, 173, 22, 53, 174, 175, 104, 176, 85, 177, 178, 179, 35, 180, 37, 181, 103, 105, 182, 43, 44, 45, 46, 47, 48, 38, 39, 40, 41, 42, 183, 59, 60, 61, 62, 29, 30, 31, 184, 185, 186, 187, 188, 189, 190, 191, 192, 193, 194, 195, 196, 197, 198, 199, 200, 201, 202, 203, 204, 100, 101, 102, 106, 107, 108, 109, 205, 206, 207, 208, 21, 8, 209, 210, 211, 212, 87, 213, 214, 215, 216, 217, 218, 219, 220, 221, 222, 223, 113, 224, 116, 225, 226, 227, 228, 115, 229, 230, 231, 232, 233, 234, 235, 26, 236, 143, 144, 28, 145, 237, 238, 239, 240, 241, 242, 243, 244, 245, 246, 247, 248, 249, 250, 361, 362, 363, 364, 365, 366, 367, 368, 369, 370, 371, 372, 373, 374, 396, 397, 398, 399, 400, 401, 375, 376, 377, 378, 379, 384, 385, 386, 393, 394, 380, 381, 382, 383] (by decide +kernel) (by decide +kernel)
set_option maxRecDepth 20000 in
theorem gX11_close_X0_decideRound : GoodIn wsX11_close (wsV RX11 208 RX0 yX0_decideRound wsX0_decideRound) := goodIn_app (goodIn_of _ (by decide +kernel)) ggX11_close_X0_decideRound
set_option maxRecDepth 20000 in
theorem ggX11_close_X0_decideTieRound : GoodIn wsX11_close wsX0_decideTieRound := goodIn_r _ [254, 21, 255, 256, 257, 6, 258, 151, 87, 22, 156, 157, 158, 159, 160, 161, 162, 163, 164, 165, 23, 24, 25, 26, 27, 28, 29, 30, 31, 259, 260, 261, 35, 262, 263, 178, 179, 180, 37, 181, 103, 104, 105, 182, 175, 176, 43, 44, 45, 46, 47, 48, 38, 39, 40, 41, 42, 184, 185, 186, 187, 188, 189, 190, 191, 192, 193, 194, 195, 196, 197, 198, 199, 200, 201, 202, 203, 204, 205, 206, 207, 208, 8, 209, 210, 211, 212, 213, 214, 215, 216, 217, 218, 219, 220, 221, 222, 223, 113, 224, 116, 225, 226, 227, 228, 115, 229, 230, 231, 232, 233, 234, 235, 236, 143, 144, 145, 237, 238, 239, 240, 241, 242, 243, 244, 245, 246, 247, 248, 249, 250, 264, 265, 266, 267, 9, 268, 10, 11, 12, 13, 14, 15, 16, 269, 361, 362, 363, 364, 365, 366, 367, 368, 369, 370, 371, 372, 373, 374, 380, 381, 382, 383, 393, 394, 396, 397, 398, 399, 400, 401, 384, 385, 386, 375, 376, 377, 378, 379] (by decide +kernel) (by decide +kernel)
set_option maxRecDepth 20000 in
theorem gX11_close_X0_decideTieRound : GoodIn wsX11_close (wsV RX11 211 RX0 yX0_decideTieRound wsX0_decideTieRound) := goodIn_app (goodIn_of _ (by decide +kernel)) ggX11_close_X0_decideTieRound
set_option maxRecDepth 20000 in
theorem ggX11_close_X0_goOn : GoodIn wsX11_close wsX0_goOn := goodIn_r _ [273, 21, 83, 84, 8, 274, 275, 276, 26, 277, 143, 144, 28, 145, 278, 163, 164, 165, 246, 247, 248, 46, 249, 48, 250, 279, 280, 281, 6, 282, 9, 53, 87, 89, 88, 86, 283, 284, 285, 13, 286, 15, 133, 62, 287, 288, 289, 290, 291, 113, 292, 116, 225, 226, 227, 228, 115, 293, 294, 295, 122, 296, 297, 298, 299, 300, 301, 302, 303, 304, 124, 305, 306, 307, 308, 309, 310, 311, 94, 312, 99, 313, 314, 315, 316, 96, 317, 318, 319, 320, 321, 322, 323, 324, 98, 325, 326, 327, 328, 329, 175, 104, 176, 330, 331, 332, 333, 97, 334, 335, 336, 337, 338, 339, 340, 341, 342, 343, 344, 345, 16, 221, 222, 223, 224, 346, 347, 348, 349, 134, 350, 351, 352, 353, 354, 355, 356, 357, 29, 30, 31, 361, 362, 363, 364, 365, 366, 367, 368, 369, 370, 371, 372, 373, 374, 380, 381, 382, 383, 386, 393, 394, 375, 376, 377, 378, 379, 395, 389, 390, 391, 392] (by decide +kernel) (by decide +kernel)
set_option maxRecDepth 20000 in
theorem gX11_close_X0_goOn : GoodIn wsX11_close (wsV RX11 214 RX0 yX0_goOn wsX0_goOn) := goodIn_app (goodIn_of _ (by decide +kernel)) ggX11_close_X0_goOn
theorem dX11_close_0 : decode cX11_close 0 = .ok (.aload_n 0, 1) := by decide +kernel
theorem dX11_close_1 : decode cX11_close 1 = .ok (.getfield 10, 3) := by decide +kernel
theorem dX11_close_4 : decode cX11_close 4 = .ok (.invokevirtual 204, 3) := by decide +kernel
theorem dX11_close_7 : decode cX11_close 7 = .ok (.invokestatic 51, 3) := by decide +kernel
theorem dX11_close_10 : decode cX11_close 10 = .ok (.aload_n 0, 1) := by decide +kernel
theorem dX11_close_11 : decode cX11_close 11 = .ok (.getfield 19, 3) := by decide +kernel
theorem dX11_close_14 : decode cX11_close 14 = .ok (.aload_n 0, 1) := by decide +kernel
theorem dX11_close_15 : decode cX11_close 15 = .ok (.getfield 10, 3) := by decide +kernel
theorem dX11_close_18 : decode cX11_close 18 = .ok (.invokevirtual 54, 3) := by decide +kernel
theorem dX11_close_21 : decode cX11_close 21 = .ok (.aload_n 0, 1) := by decide +kernel
theorem dX11_close_22 : decode cX11_close 22 = .ok (.getfield 10, 3) := by decide +kernel
theorem dX11_close_25 : decode cX11_close 25 = .ok (.getfield 38, 3) := by decide +kernel
theorem dX11_close_28 : decode cX11_close 28 = .ok (.iconst 1, 1) := by decide +kernel
theorem dX11_close_29 : decode cX11_close 29 = .ok (.if_icmp .ne 13, 3) := by decide +kernel
theorem dX11_close_32 : decode cX11_close 32 = .ok (.aload_n 0, 1) := by decide +kernel
theorem dX11_close_33 : decode cX11_close 33 = .ok (.getfield 10, 3) := by decide +kernel
theorem dX11_close_36 : decode cX11_close 36 = .ok (.invokevirtual 208, 3) := by decide +kernel
theorem dX11_close_39 : decode cX11_close 39 = .ok (.goto 10, 3) := by decide +kernel
theorem dX11_close_42 : decode cX11_close 42 = .ok (.aload_n 0, 1) := by decide +kernel
theorem dX11_close_43 : decode cX11_close 43 = .ok (.getfield 10, 3) := by decide +kernel
theorem dX11_close_46 : decode cX11_close 46 = .ok (.invokevirtual 211, 3) := by decide +kernel
theorem dX11_close_49 : decode cX11_close 49 = .ok (.istore_n 1, 1) := by decide +kernel
theorem dX11_close_50 : decode cX11_close 50 = .ok (.iload_n 1, 1) := by decide +kernel
theorem dX11_close_51 : decode cX11_close 51 = .ok (.ifCond .eq 10, 3) := by decide +kernel
theorem dX11_close_54 : decode cX11_close 54 = .ok (.aload_n 0, 1) := by decide +kernel
theorem dX11_close_55 : decode cX11_close 55 = .ok (.getfield 10, 3) := by decide +kernel
theorem dX11_close_58 : decode cX11_close 58 = .ok (.invokevirtual 214, 3) := by decide +kernel
theorem dX11_close_61 : decode cX11_close 61 = .ok (.aload_n 0, 1) := by decide +kernel
theorem dX11_close_62 : decode cX11_close 62 = .ok (.getfield 10, 3) := by decide +kernel
theorem dX11_close_65 : decode cX11_close 65 = .ok (.getfield 38, 3) := by decide +kernel
theorem dX11_close_68 : decode cX11_close 68 = .ok (.ireturn, 1) := by decide +kernel
set_option maxRecDepth 20000 in
theorem ggX11_withdraw_X11_requireEntrant : GoodIn wsX11_withdraw wsX11_requireEntrant := goodIn_ca (goodIn_r _ [7, 1, 8, 9, 10, 11, 12, 13, 14, 15, 6, 16, 17, 18, 162, 163, 164, 165, 166, 167, 168, 169, 170, 171, 172, 173, 174, 175, 176, 177, 178, 179, 180] (by decide +kernel) (by decide +kernel)) (goodIn_sub (fun _ h => List.mem_cons_of_mem _ (List.mem_append_left _ (List.mem_append_right _ h))) (by decide +kernel))
set_option maxRecDepth 20000 in
theorem gX11_withdraw_X11_requireEntrant : GoodIn wsX11_withdraw (wsV RX11 217 RX11 yX11_requireEntrant wsX11_requireEntrant) := goodIn_app (goodIn_of _ (by decide +kernel)) ggX11_withdraw_X11_requireEntrant
set_option maxRecDepth 20000 in
theorem ggX11_withdraw_X2_isIn : GoodIn wsX11_withdraw wsX2_isIn := goodIn_r _ [22, 23, 24, 9, 10, 11, 12, 13, 179, 180] (by decide +kernel) (by decide +kernel)
set_option maxRecDepth 20000 in
theorem gX11_withdraw_X2_isIn : GoodIn wsX11_withdraw (wsV RX11 220 RX2 yX2_isIn wsX2_isIn) := goodIn_app (goodIn_of _ (by decide +kernel)) ggX11_withdraw_X2_isIn
set_option maxRecDepth 20000 in
theorem ggX11_withdraw_X11_requireState : GoodIn wsX11_withdraw wsX11_requireState := goodIn_ca (goodIn_r _ [27, 28, 29] (by decide +kernel) (by decide +kernel)) (goodIn_sub (fun _ h => List.mem_cons_of_mem _ (List.mem_append_right _ h)) (by decide +kernel))
set_option maxRecDepth 20000 in
theorem gX11_withdraw_X11_requireState : GoodIn wsX11_withdraw (va_wsS RX11 51 yX11_requireState wsX11_requireState) := goodIn_app (goodIn_of _ (by decide +kernel)) ggX11_withdraw_X11_requireState
set_option maxRecDepth 20000 in
theorem ggX11_withdraw_X7_hasPlayed : GoodIn wsX11_withdraw wsX7_hasPlayed := goodIn_r _ [34, 35, 36, 37, 33, 38, 39, 40, 6, 41, 181, 182, 183, 184, 185] (by decide +kernel) (by decide +kernel)
set_option maxRecDepth 20000 in
theorem gX11_withdraw_X7_hasPlayed : GoodIn wsX11_withdraw (wsV RX11 223 RX7 yX7_hasPlayed wsX7_hasPlayed) := goodIn_app (goodIn_of _ (by decide +kernel)) ggX11_withdraw_X7_hasPlayed
set_option maxRecDepth 20000 in
theorem ggX11_withdraw_X5_keep : GoodIn wsX11_withdraw wsX5_keep := goodIn_r _ [46, 47, 48, 49, 50, 51, 45, 52, 53, 54, 55, 56, 57, 58, 59, 60, 61, 62, 63, 64, 65, 66, 67, 68, 69, 70, 71, 72, 73, 74, 75, 76, 77, 78, 79, 80, 6, 81, 82, 83, 84, 85, 86, 87, 88, 89, 90, 91, 92, 11, 93, 13, 23, 94, 95, 96, 97, 98, 99, 100, 101, 102, 103, 104, 105, 106, 107, 108, 109, 110, 111, 33, 112, 113, 114, 115, 116, 39, 117, 118, 119, 120, 121, 122, 123, 124, 125, 126, 127, 128, 129, 130, 131, 132, 186, 187, 165, 166, 167, 168, 169, 170, 171, 172, 173, 174, 175, 176, 177, 178, 188, 189, 190, 191, 179, 180, 192, 193, 194, 181, 182, 183, 184, 185, 195, 196, 197, 198, 199] (by decide +kernel) (by decide +kernel)
set_option maxRecDepth 20000 in
theorem gX11_withdraw_X5_keep : GoodIn wsX11_withdraw (wsV RX11 54 RX5 yX5_keep wsX5_keep) := goodIn_app (goodIn_of _ (by decide +kernel)) ggX11_withdraw_X5_keep
set_option maxRecDepth 20000 in
theorem ggX11_withdraw_X0_letGo : GoodIn wsX11_withdraw wsX0_letGo := goodIn_r _ [136, 63, 67, 58, 137, 138, 139, 11, 140, 23, 24, 9, 10, 12, 13, 141, 142, 143, 33, 144, 113, 145, 146, 147, 148, 149, 150, 151, 152, 116, 153, 154, 155, 156, 40, 6, 41, 165, 166, 167, 168, 169, 170, 171, 172, 173, 174, 175, 176, 177, 178, 181, 182, 183, 184, 185, 179, 180] (by decide +kernel) (by decide +kernel)
set_option maxRecDepth 20000 in
theorem gX11_withdraw_X0_letGo : GoodIn wsX11_withdraw (wsV RX11 226 RX0 yX0_letGo wsX0_letGo) := goodIn_app (goodIn_of _ (by decide +kernel)) ggX11_withdraw_X0_letGo
set_option maxRecDepth 20000 in
theorem ggX11_withdraw_X2_countIn : GoodIn wsX11_withdraw wsX2_countIn := goodIn_r _ [160, 13, 161, 20, 21, 11, 22, 23, 24, 9, 10, 12, 179, 180] (by decide +kernel) (by decide +kernel)
set_option maxRecDepth 20000 in
theorem gX11_withdraw_X2_countIn : GoodIn wsX11_withdraw (wsV RX11 229 RX2 yX2_countIn wsX2_countIn) := goodIn_app (goodIn_of _ (by decide +kernel)) ggX11_withdraw_X2_countIn
theorem dX11_withdraw_0 : decode cX11_withdraw 0 = .ok (.aload_n 0, 1) := by decide +kernel
theorem dX11_withdraw_1 : decode cX11_withdraw 1 = .ok (.iload_n 1, 1) := by decide +kernel
theorem dX11_withdraw_2 : decode cX11_withdraw 2 = .ok (.invokevirtual 217, 3) := by decide +kernel
theorem dX11_withdraw_5 : decode cX11_withdraw 5 = .ok (.aload_n 0, 1) := by decide +kernel
theorem dX11_withdraw_6 : decode cX11_withdraw 6 = .ok (.getfield 10, 3) := by decide +kernel
theorem dX11_withdraw_9 : decode cX11_withdraw 9 = .ok (.getfield 73, 3) := by decide +kernel
theorem dX11_withdraw_12 : decode cX11_withdraw 12 = .ok (.iload_n 1, 1) := by decide +kernel
theorem dX11_withdraw_13 : decode cX11_withdraw 13 = .ok (.invokevirtual 220, 3) := by decide +kernel
theorem dX11_withdraw_16 : decode cX11_withdraw 16 = .ok (.invokestatic 51, 3) := by decide +kernel
theorem dX11_withdraw_19 : decode cX11_withdraw 19 = .ok (.aload_n 0, 1) := by decide +kernel
theorem dX11_withdraw_20 : decode cX11_withdraw 20 = .ok (.getfield 10, 3) := by decide +kernel
theorem dX11_withdraw_23 : decode cX11_withdraw 23 = .ok (.getfield 38, 3) := by decide +kernel
theorem dX11_withdraw_26 : decode cX11_withdraw 26 = .ok (.ifCond .eq 28, 3) := by decide +kernel
theorem dX11_withdraw_29 : decode cX11_withdraw 29 = .ok (.aload_n 0, 1) := by decide +kernel
theorem dX11_withdraw_30 : decode cX11_withdraw 30 = .ok (.getfield 10, 3) := by decide +kernel
theorem dX11_withdraw_33 : decode cX11_withdraw 33 = .ok (.getfield 38, 3) := by decide +kernel
theorem dX11_withdraw_36 : decode cX11_withdraw 36 = .ok (.iconst 1, 1) := by decide +kernel
theorem dX11_withdraw_37 : decode cX11_withdraw 37 = .ok (.if_icmp .ne 21, 3) := by decide +kernel
theorem dX11_withdraw_40 : decode cX11_withdraw 40 = .ok (.aload_n 0, 1) := by decide +kernel
theorem dX11_withdraw_41 : decode cX11_withdraw 41 = .ok (.getfield 10, 3) := by decide +kernel
theorem dX11_withdraw_44 : decode cX11_withdraw 44 = .ok (.getfield 164, 3) := by decide +kernel
theorem dX11_withdraw_47 : decode cX11_withdraw 47 = .ok (.iload_n 1, 1) := by decide +kernel
theorem dX11_withdraw_48 : decode cX11_withdraw 48 = .ok (.invokevirtual 223, 3) := by decide +kernel
theorem dX11_withdraw_51 : decode cX11_withdraw 51 = .ok (.ifCond .ne 7, 3) := by decide +kernel
theorem dX11_withdraw_54 : decode cX11_withdraw 54 = .ok (.iconst 1, 1) := by decide +kernel
theorem dX11_withdraw_55 : decode cX11_withdraw 55 = .ok (.goto 4, 3) := by decide +kernel
theorem dX11_withdraw_58 : decode cX11_withdraw 58 = .ok (.iconst 0, 1) := by decide +kernel
theorem dX11_withdraw_59 : decode cX11_withdraw 59 = .ok (.invokestatic 51, 3) := by decide +kernel
theorem dX11_withdraw_62 : decode cX11_withdraw 62 = .ok (.aload_n 0, 1) := by decide +kernel
theorem dX11_withdraw_63 : decode cX11_withdraw 63 = .ok (.getfield 19, 3) := by decide +kernel
theorem dX11_withdraw_66 : decode cX11_withdraw 66 = .ok (.aload_n 0, 1) := by decide +kernel
theorem dX11_withdraw_67 : decode cX11_withdraw 67 = .ok (.getfield 10, 3) := by decide +kernel
theorem dX11_withdraw_70 : decode cX11_withdraw 70 = .ok (.invokevirtual 54, 3) := by decide +kernel
theorem dX11_withdraw_73 : decode cX11_withdraw 73 = .ok (.aload_n 0, 1) := by decide +kernel
theorem dX11_withdraw_74 : decode cX11_withdraw 74 = .ok (.getfield 10, 3) := by decide +kernel
theorem dX11_withdraw_77 : decode cX11_withdraw 77 = .ok (.iload_n 1, 1) := by decide +kernel
theorem dX11_withdraw_78 : decode cX11_withdraw 78 = .ok (.invokevirtual 226, 3) := by decide +kernel
theorem dX11_withdraw_81 : decode cX11_withdraw 81 = .ok (.aload_n 0, 1) := by decide +kernel
theorem dX11_withdraw_82 : decode cX11_withdraw 82 = .ok (.getfield 10, 3) := by decide +kernel
theorem dX11_withdraw_85 : decode cX11_withdraw 85 = .ok (.getfield 73, 3) := by decide +kernel
theorem dX11_withdraw_88 : decode cX11_withdraw 88 = .ok (.invokevirtual 229, 3) := by decide +kernel
theorem dX11_withdraw_91 : decode cX11_withdraw 91 = .ok (.ireturn, 1) := by decide +kernel
set_option maxRecDepth 20000 in
theorem ggX11_info_X11_isBetween : GoodIn wsX11_info wsX11_isBetween := goodIn_r _ [5] (by decide +kernel) (by decide +kernel)
set_option maxRecDepth 20000 in
theorem gX11_info_X11_isBetween : GoodIn wsX11_info (va_wsS RX11 30 yX11_isBetween wsX11_isBetween) := goodIn_app (goodIn_of _ (by decide +kernel)) ggX11_info_X11_isBetween
set_option maxRecDepth 20000 in
theorem ggX11_info_X11_requireArgument : GoodIn wsX11_info wsX11_requireArgument := goodIn_ca (goodIn_r _ [8, 9, 10] (by decide +kernel) (by decide +kernel)) (goodIn_sub (fun _ h => List.mem_cons_of_mem _ (List.mem_append_right _ h)) (by decide +kernel))
set_option maxRecDepth 20000 in
theorem gX11_info_X11_requireArgument : GoodIn wsX11_info (va_wsS RX11 34 yX11_requireArgument wsX11_requireArgument) := goodIn_app (goodIn_of _ (by decide +kernel)) ggX11_info_X11_requireArgument
set_option maxRecDepth 20000 in
theorem ggX11_info_X0_tell : GoodIn wsX11_info wsX0_tell := goodIn_r _ [15, 16, 17, 18, 19, 20, 21, 22, 23, 24, 25, 26, 27, 28, 29, 30, 31, 32, 33, 34, 35, 36, 37, 38, 39, 40, 41, 42, 43, 44, 45, 49, 50, 51, 52, 53, 54, 55, 56, 57, 58, 59, 60, 61, 62, 63, 64, 65, 66, 67, 68, 69, 70, 71, 72, 73, 74, 75, 76, 77, 78, 79] (by decide +kernel) (by decide +kernel)
set_option maxRecDepth 20000 in
theorem gX11_info_X0_tell : GoodIn wsX11_info (wsV RX11 108 RX0 yX0_tell wsX0_tell) := goodIn_app (goodIn_of _ (by decide +kernel)) ggX11_info_X0_tell
theorem dX11_info_0 : decode cX11_info 0 = .ok (.iload_n 1, 1) := by decide +kernel
theorem dX11_info_1 : decode cX11_info 1 = .ok (.iconst 0, 1) := by decide +kernel
theorem dX11_info_2 : decode cX11_info 2 = .ok (.bipush 12, 2) := by decide +kernel
theorem dX11_info_4 : decode cX11_info 4 = .ok (.invokestatic 30, 3) := by decide +kernel
theorem dX11_info_7 : decode cX11_info 7 = .ok (.invokestatic 34, 3) := by decide +kernel
theorem dX11_info_10 : decode cX11_info 10 = .ok (.aload_n 0, 1) := by decide +kernel
theorem dX11_info_11 : decode cX11_info 11 = .ok (.getfield 10, 3) := by decide +kernel
theorem dX11_info_14 : decode cX11_info 14 = .ok (.iload_n 1, 1) := by decide +kernel
theorem dX11_info_15 : decode cX11_info 15 = .ok (.invokevirtual 108, 3) := by decide +kernel
theorem dX11_info_18 : decode cX11_info 18 = .ok (.ireturn, 1) := by decide +kernel
set_option maxRecDepth 20000 in
theorem ggX11_entrant_X11_requireEntrant : GoodIn wsX11_entrant wsX11_requireEntrant := goodIn_ca (goodIn_r _ [6, 1, 7, 8, 9, 10, 11, 12, 13, 14, 5, 15, 16, 17, 133, 134, 135, 136, 137, 138, 139, 140, 141, 142, 143, 144, 145, 146, 147, 148, 149, 150, 151] (by decide +kernel) (by decide +kernel)) (goodIn_sub (fun _ h => List.mem_cons_of_mem _ (List.mem_append_left _ (List.mem_append_right _ h))) (by decide +kernel))
set_option maxRecDepth 20000 in
theorem gX11_entrant_X11_requireEntrant : GoodIn wsX11_entrant (wsV RX11 217 RX11 yX11_requireEntrant wsX11_requireEntrant) := goodIn_app (goodIn_of _ (by decide +kernel)) ggX11_entrant_X11_requireEntrant
set_option maxRecDepth 20000 in
theorem ggX11_entrant_X11_isBetween : GoodIn wsX11_entrant wsX11_isBetween := goodIn_r _ [20] (by decide +kernel) (by decide +kernel)
set_option maxRecDepth 20000 in
theorem gX11_entrant_X11_isBetween : GoodIn wsX11_entrant (va_wsS RX11 30 yX11_isBetween wsX11_isBetween) := goodIn_app (goodIn_of _ (by decide +kernel)) ggX11_entrant_X11_isBetween
set_option maxRecDepth 20000 in
theorem ggX11_entrant_X11_requireArgument : GoodIn wsX11_entrant wsX11_requireArgument := goodIn_ca (goodIn_r _ [23, 24, 25] (by decide +kernel) (by decide +kernel)) (goodIn_sub (fun _ h => List.mem_cons_of_mem _ (List.mem_append_right _ h)) (by decide +kernel))
set_option maxRecDepth 20000 in
theorem gX11_entrant_X11_requireArgument : GoodIn wsX11_entrant (va_wsS RX11 34 yX11_requireArgument wsX11_requireArgument) := goodIn_app (goodIn_of _ (by decide +kernel)) ggX11_entrant_X11_requireArgument
set_option maxRecDepth 20000 in
theorem ggX11_entrant_X0_tellOfEntrant : GoodIn wsX11_entrant wsX0_tellOfEntrant := goodIn_r _ [30, 31, 32, 33, 34, 35, 36, 37, 10, 38, 39, 40, 8, 9, 11, 12, 41, 42, 43, 44, 45, 46, 47, 48, 49, 50, 51, 52, 53, 54, 55, 56, 19, 5, 20, 57, 58, 59, 29, 60, 61, 62, 63, 64, 65, 66, 67, 68, 69, 70, 71, 72, 73, 74, 75, 76, 77, 78, 79, 80, 81, 82, 83, 84, 85, 86, 87, 88, 89, 90, 91, 92, 93, 94, 95, 96, 97, 98, 99, 100, 101, 102, 103, 104, 105, 106, 107, 108, 109, 110, 111, 112, 113, 114, 115, 116, 117, 118, 119, 120, 121, 122, 123, 124, 125, 126, 127, 128, 129, 130, 131, 132, 136, 137, 138, 139, 140, 141, 142, 143, 144, 145, 146, 147, 148, 149, 152, 153, 154, 155, 150, 151, 156, 157, 158, 159, 160, 161, 162, 163] (by decide +kernel) (by decide +kernel)
set_option maxRecDepth 20000 in
theorem gX11_entrant_X0_tellOfEntrant : GoodIn wsX11_entrant (wsV RX11 232 RX0 yX0_tellOfEntrant wsX0_tellOfEntrant) := goodIn_app (goodIn_of _ (by decide +kernel)) ggX11_entrant_X0_tellOfEntrant
theorem dX11_entrant_0 : decode cX11_entrant 0 = .ok (.aload_n 0, 1) := by decide +kernel
theorem dX11_entrant_1 : decode cX11_entrant 1 = .ok (.iload_n 1, 1) := by decide +kernel
theorem dX11_entrant_2 : decode cX11_entrant 2 = .ok (.invokevirtual 217, 3) := by decide +kernel
theorem dX11_entrant_5 : decode cX11_entrant 5 = .ok (.iload_n 2, 1) := by decide +kernel
theorem dX11_entrant_6 : decode cX11_entrant 6 = .ok (.iconst 0, 1) := by decide +kernel
theorem dX11_entrant_7 : decode cX11_entrant 7 = .ok (.bipush 7, 2) := by decide +kernel
theorem dX11_entrant_9 : decode cX11_entrant 9 = .ok (.invokestatic 30, 3) := by decide +kernel
theorem dX11_entrant_12 : decode cX11_entrant 12 = .ok (.invokestatic 34, 3) := by decide +kernel
theorem dX11_entrant_15 : decode cX11_entrant 15 = .ok (.aload_n 0, 1) := by decide +kernel
theorem dX11_entrant_16 : decode cX11_entrant 16 = .ok (.getfield 10, 3) := by decide +kernel
theorem dX11_entrant_19 : decode cX11_entrant 19 = .ok (.iload_n 1, 1) := by decide +kernel
theorem dX11_entrant_20 : decode cX11_entrant 20 = .ok (.iload_n 2, 1) := by decide +kernel
theorem dX11_entrant_21 : decode cX11_entrant 21 = .ok (.invokevirtual 232, 3) := by decide +kernel
theorem dX11_entrant_24 : decode cX11_entrant 24 = .ok (.ireturn, 1) := by decide +kernel
set_option maxRecDepth 20000 in
theorem ggX11_marked_X11_requireJurorAndEntrant : GoodIn wsX11_marked wsX11_requireJurorAndEntrant := goodIn_ca (goodIn_r _ [6, 1, 7, 8, 9, 10, 11, 12, 13, 14, 5, 15, 16, 17, 18, 19, 20, 21, 22, 23, 24, 25, 26, 27, 34, 35, 36, 37, 38, 39, 40, 41, 42, 43, 44, 45, 46, 47, 48, 49, 50, 55, 56, 57, 58] (by decide +kernel) (by decide +kernel)) (goodIn_sub (fun _ h => List.mem_cons_of_mem _ (List.mem_append_right _ h)) (by decide +kernel))
set_option maxRecDepth 20000 in
theorem gX11_marked_X11_requireJurorAndEntrant : GoodIn wsX11_marked (wsV RX11 83 RX11 yX11_requireJurorAndEntrant wsX11_requireJurorAndEntrant) := goodIn_app (goodIn_of _ (by decide +kernel)) ggX11_marked_X11_requireJurorAndEntrant
set_option maxRecDepth 20000 in
theorem ggX11_marked_X6_at : GoodIn wsX11_marked wsX6_at := goodIn_r _ [32, 33, 59] (by decide +kernel) (by decide +kernel)
set_option maxRecDepth 20000 in
theorem gX11_marked_X6_at : GoodIn wsX11_marked (wsV RX11 245 RX6 yX6_at wsX6_at) := goodIn_app (goodIn_of _ (by decide +kernel)) ggX11_marked_X6_at
theorem dX11_marked_0 : decode cX11_marked 0 = .ok (.aload_n 0, 1) := by decide +kernel
theorem dX11_marked_1 : decode cX11_marked 1 = .ok (.iload_n 1, 1) := by decide +kernel
theorem dX11_marked_2 : decode cX11_marked 2 = .ok (.iload_n 2, 1) := by decide +kernel
theorem dX11_marked_3 : decode cX11_marked 3 = .ok (.invokevirtual 83, 3) := by decide +kernel
theorem dX11_marked_6 : decode cX11_marked 6 = .ok (.iload_n 3, 1) := by decide +kernel
theorem dX11_marked_7 : decode cX11_marked 7 = .ok (.ifCond .eq 21, 3) := by decide +kernel
theorem dX11_marked_10 : decode cX11_marked 10 = .ok (.aload_n 0, 1) := by decide +kernel
theorem dX11_marked_11 : decode cX11_marked 11 = .ok (.getfield 10, 3) := by decide +kernel
theorem dX11_marked_14 : decode cX11_marked 14 = .ok (.getfield 235, 3) := by decide +kernel
theorem dX11_marked_17 : decode cX11_marked 17 = .ok (.getfield 239, 3) := by decide +kernel
theorem dX11_marked_20 : decode cX11_marked 20 = .ok (.iload_n 1, 1) := by decide +kernel
theorem dX11_marked_21 : decode cX11_marked 21 = .ok (.iload_n 2, 1) := by decide +kernel
theorem dX11_marked_22 : decode cX11_marked 22 = .ok (.invokevirtual 245, 3) := by decide +kernel
theorem dX11_marked_25 : decode cX11_marked 25 = .ok (.goto 15, 3) := by decide +kernel
theorem dX11_marked_28 : decode cX11_marked 28 = .ok (.aload_n 0, 1) := by decide +kernel
theorem dX11_marked_29 : decode cX11_marked 29 = .ok (.getfield 10, 3) := by decide +kernel
theorem dX11_marked_32 : decode cX11_marked 32 = .ok (.getfield 248, 3) := by decide +kernel
theorem dX11_marked_35 : decode cX11_marked 35 = .ok (.iload_n 1, 1) := by decide +kernel
theorem dX11_marked_36 : decode cX11_marked 36 = .ok (.iload_n 2, 1) := by decide +kernel
theorem dX11_marked_37 : decode cX11_marked 37 = .ok (.invokevirtual 245, 3) := by decide +kernel
theorem dX11_marked_40 : decode cX11_marked 40 = .ok (.ireturn, 1) := by decide +kernel
set_option maxRecDepth 20000 in
theorem ggX11_history_X11_requireEntrantAndRound : GoodIn wsX11_history wsX11_requireEntrantAndRound := goodIn_ca (goodIn_r _ [6, 7, 8, 9, 5, 10, 1, 11, 12, 13, 14, 15, 16, 17, 18, 19, 20, 21, 22, 23, 24, 25, 26, 27, 28, 29, 30, 31, 32, 33, 34, 35, 36, 37, 38, 39, 40, 41, 42, 43, 44, 45, 46] (by decide +kernel) (by decide +kernel)) (goodIn_sub (fun _ h => List.mem_cons_of_mem _ (List.mem_append_right _ h)) (by decide +kernel))
set_option maxRecDepth 20000 in
theorem gX11_history_X11_requireEntrantAndRound : GoodIn wsX11_history (wsV RX11 129 RX11 yX11_requireEntrantAndRound wsX11_requireEntrantAndRound) := goodIn_app (goodIn_of _ (by decide +kernel)) ggX11_history_X11_requireEntrantAndRound
theorem dX11_history_0 : decode cX11_history 0 = .ok (.aload_n 0, 1) := by decide +kernel
theorem dX11_history_1 : decode cX11_history 1 = .ok (.iload_n 1, 1) := by decide +kernel
theorem dX11_history_2 : decode cX11_history 2 = .ok (.iload_n 2, 1) := by decide +kernel
theorem dX11_history_3 : decode cX11_history 3 = .ok (.invokevirtual 129, 3) := by decide +kernel
theorem dX11_history_6 : decode cX11_history 6 = .ok (.aload_n 0, 1) := by decide +kernel
theorem dX11_history_7 : decode cX11_history 7 = .ok (.getfield 10, 3) := by decide +kernel
theorem dX11_history_10 : decode cX11_history 10 = .ok (.getfield 249, 3) := by decide +kernel
theorem dX11_history_13 : decode cX11_history 13 = .ok (.iload_n 2, 1) := by decide +kernel
theorem dX11_history_14 : decode cX11_history 14 = .ok (.aaload, 1) := by decide +kernel
theorem dX11_history_15 : decode cX11_history 15 = .ok (.iload_n 1, 1) := by decide +kernel
theorem dX11_history_16 : decode cX11_history 16 = .ok (.iaload, 1) := by decide +kernel
theorem dX11_history_17 : decode cX11_history 17 = .ok (.ireturn, 1) := by decide +kernel
set_option maxRecDepth 20000 in
theorem ggX11_stage_X7_playerAt : GoodIn wsX11_stage wsX7_playerAt := goodIn_r _ [6, 7, 8, 26, 27, 28, 29, 30] (by decide +kernel) (by decide +kernel)
set_option maxRecDepth 20000 in
theorem gX11_stage_X7_playerAt : GoodIn wsX11_stage (wsV RX11 252 RX7 yX7_playerAt wsX7_playerAt) := goodIn_app (goodIn_of _ (by decide +kernel)) ggX11_stage_X7_playerAt
theorem dX11_stage_0 : decode cX11_stage 0 = .ok (.aload_n 0, 1) := by decide +kernel
theorem dX11_stage_1 : decode cX11_stage 1 = .ok (.getfield 10, 3) := by decide +kernel
theorem dX11_stage_4 : decode cX11_stage 4 = .ok (.getfield 164, 3) := by decide +kernel
theorem dX11_stage_7 : decode cX11_stage 7 = .ok (.iload_n 1, 1) := by decide +kernel
theorem dX11_stage_8 : decode cX11_stage 8 = .ok (.invokevirtual 252, 3) := by decide +kernel
theorem dX11_stage_11 : decode cX11_stage 11 = .ok (.ireturn, 1) := by decide +kernel
set_option maxRecDepth 20000 in
theorem ggX11_wouldBe_X11_isBetween : GoodIn wsX11_wouldBe wsX11_isBetween := goodIn_r _ [5] (by decide +kernel) (by decide +kernel)
set_option maxRecDepth 20000 in
theorem gX11_wouldBe_X11_isBetween : GoodIn wsX11_wouldBe (va_wsS RX11 30 yX11_isBetween wsX11_isBetween) := goodIn_app (goodIn_of _ (by decide +kernel)) ggX11_wouldBe_X11_isBetween
set_option maxRecDepth 20000 in
theorem ggX11_wouldBe_X11_requireArgument : GoodIn wsX11_wouldBe wsX11_requireArgument := goodIn_ca (goodIn_r _ [8, 9, 10] (by decide +kernel) (by decide +kernel)) (goodIn_sub (fun _ h => List.mem_cons_of_mem _ (List.mem_append_right _ h)) (by decide +kernel))
set_option maxRecDepth 20000 in
theorem gX11_wouldBe_X11_requireArgument : GoodIn wsX11_wouldBe (va_wsS RX11 34 yX11_requireArgument wsX11_requireArgument) := goodIn_app (goodIn_of _ (by decide +kernel)) ggX11_wouldBe_X11_requireArgument
set_option maxRecDepth 20000 in
theorem ggX11_wouldBe_X0_canBeClosed : GoodIn wsX11_wouldBe wsX0_canBeClosed := goodIn_r _ [15, 16, 17, 18, 19, 20, 21, 22, 23, 24, 25, 26, 27, 14, 28, 29, 30, 31, 32, 33, 34, 35, 36, 3, 4, 5, 37, 38, 39, 40, 41, 42, 43, 44, 45, 46, 47, 48, 49, 50, 51, 52, 53, 54, 55, 56, 57, 58, 59, 60, 61, 62, 63, 64, 65, 66, 67, 139, 140, 141, 142, 143, 144, 145, 146, 147, 148, 149, 150, 151, 152, 153, 154, 155, 156, 157, 158, 159, 160, 161, 162, 163, 164] (by decide +kernel) (by decide +kernel)
set_option maxRecDepth 20000 in
theorem gX11_wouldBe_X0_canBeClosed : GoodIn wsX11_wouldBe (wsV RX11 204 RX0 yX0_canBeClosed wsX0_canBeClosed) := goodIn_app (goodIn_of _ (by decide +kernel)) ggX11_wouldBe_X0_canBeClosed
set_option maxRecDepth 20000 in
theorem ggX11_wouldBe_X0_judgeRound : GoodIn wsX11_wouldBe wsX0_judgeRound := goodIn_r _ [71, 72, 17, 73, 74, 75, 76, 77, 78, 79, 80, 81, 82, 83, 84, 18, 19, 20, 21, 22, 23, 24, 85, 86, 87, 14, 88, 89, 90, 91, 92, 30, 58, 93, 94, 95, 96, 97, 98, 99, 100, 40, 101, 42, 102, 103, 104, 105, 48, 49, 50, 51, 52, 53, 43, 44, 45, 46, 47, 106, 64, 65, 66, 67, 3, 4, 5, 107, 108, 109, 110, 111, 112, 113, 114, 115, 116, 117, 118, 119, 120, 121, 122, 123, 124, 125, 126, 127, 139, 140, 141, 142, 143, 144, 145, 146, 147, 148, 149, 150, 151, 152, 153, 154, 155, 156, 157, 165, 166, 167, 168, 169, 170, 162, 163, 164] (by decide +kernel) (by decide +kernel)
set_option maxRecDepth 20000 in
theorem gX11_wouldBe_X0_judgeRound : GoodIn wsX11_wouldBe (wsV RX11 255 RX0 yX0_judgeRound wsX0_judgeRound) := goodIn_app (goodIn_of _ (by decide +kernel)) ggX11_wouldBe_X0_judgeRound
set_option maxRecDepth 20000 in
theorem ggX11_wouldBe_X1_countOf : GoodIn wsX11_wouldBe wsX1_countOf := goodIn_r _ [131, 117, 118, 119, 132, 133, 134, 78, 135, 115, 165, 166, 167, 168, 169, 170] (by decide +kernel) (by decide +kernel)
set_option maxRecDepth 20000 in
theorem gX11_wouldBe_X1_countOf : GoodIn wsX11_wouldBe (wsV RX11 262 RX1 yX1_countOf wsX1_countOf) := goodIn_app (goodIn_of _ (by decide +kernel)) ggX11_wouldBe_X1_countOf
theorem dX11_wouldBe_0 : decode cX11_wouldBe 0 = .ok (.iload_n 1, 1) := by decide +kernel
theorem dX11_wouldBe_1 : decode cX11_wouldBe 1 = .ok (.iconst 0, 1) := by decide +kernel
theorem dX11_wouldBe_2 : decode cX11_wouldBe 2 = .ok (.iconst 2, 1) := by decide +kernel
theorem dX11_wouldBe_3 : decode cX11_wouldBe 3 = .ok (.invokestatic 30, 3) := by decide +kernel
theorem dX11_wouldBe_6 : decode cX11_wouldBe 6 = .ok (.invokestatic 34, 3) := by decide +kernel
theorem dX11_wouldBe_9 : decode cX11_wouldBe 9 = .ok (.aload_n 0, 1) := by decide +kernel
theorem dX11_wouldBe_10 : decode cX11_wouldBe 10 = .ok (.getfield 10, 3) := by decide +kernel
theorem dX11_wouldBe_13 : decode cX11_wouldBe 13 = .ok (.getfield 38, 3) := by decide +kernel
theorem dX11_wouldBe_16 : decode cX11_wouldBe 16 = .ok (.iconst 1, 1) := by decide +kernel
theorem dX11_wouldBe_17 : decode cX11_wouldBe 17 = .ok (.if_icmp .ne 13, 3) := by decide +kernel
theorem dX11_wouldBe_20 : decode cX11_wouldBe 20 = .ok (.aload_n 0, 1) := by decide +kernel
theorem dX11_wouldBe_21 : decode cX11_wouldBe 21 = .ok (.getfield 10, 3) := by decide +kernel
theorem dX11_wouldBe_24 : decode cX11_wouldBe 24 = .ok (.invokevirtual 204, 3) := by decide +kernel
theorem dX11_wouldBe_27 : decode cX11_wouldBe 27 = .ok (.ifCond .ne 5, 3) := by decide +kernel
theorem dX11_wouldBe_30 : decode cX11_wouldBe 30 = .ok (.iconst (-1), 1) := by decide +kernel
theorem dX11_wouldBe_31 : decode cX11_wouldBe 31 = .ok (.ireturn, 1) := by decide +kernel
theorem dX11_wouldBe_32 : decode cX11_wouldBe 32 = .ok (.aload_n 0, 1) := by decide +kernel
theorem dX11_wouldBe_33 : decode cX11_wouldBe 33 = .ok (.getfield 10, 3) := by decide +kernel
theorem dX11_wouldBe_36 : decode cX11_wouldBe 36 = .ok (.invokevirtual 255, 3) := by decide +kernel
theorem dX11_wouldBe_39 : decode cX11_wouldBe 39 = .ok (.aload_n 0, 1) := by decide +kernel
theorem dX11_wouldBe_40 : decode cX11_wouldBe 40 = .ok (.getfield 10, 3) := by decide +kernel
theorem dX11_wouldBe_43 : decode cX11_wouldBe 43 = .ok (.getfield 258, 3) := by decide +kernel
theorem dX11_wouldBe_46 : decode cX11_wouldBe 46 = .ok (.iload_n 1, 1) := by decide +kernel
theorem dX11_wouldBe_47 : decode cX11_wouldBe 47 = .ok (.invokevirtual 262, 3) := by decide +kernel
theorem dX11_wouldBe_50 : decode cX11_wouldBe 50 = .ok (.ireturn, 1) := by decide +kernel
set_option maxRecDepth 20000 in
theorem ggX11_neededMark_X11_requireJurorAndEntrant : GoodIn wsX11_neededMark wsX11_requireJurorAndEntrant := goodIn_ca (goodIn_r _ [7, 2, 8, 9, 10, 11, 12, 13, 14, 15, 6, 16, 17, 18, 19, 20, 21, 22, 23, 24, 25, 26, 27, 28, 86, 87, 88, 89, 90, 91, 92, 93, 94, 95, 96, 97, 98, 99, 100, 101, 102, 103, 104, 105, 106] (by decide +kernel) (by decide +kernel)) (goodIn_sub (fun _ h => List.mem_cons_of_mem _ (List.mem_append_left _ (List.mem_append_left _ (List.mem_append_right _ h)))) (by decide +kernel))
set_option maxRecDepth 20000 in
theorem gX11_neededMark_X11_requireJurorAndEntrant : GoodIn wsX11_neededMark (wsV RX11 83 RX11 yX11_requireJurorAndEntrant wsX11_requireJurorAndEntrant) := goodIn_app (goodIn_of _ (by decide +kernel)) ggX11_neededMark_X11_requireJurorAndEntrant
set_option maxRecDepth 20000 in
theorem ggX11_neededMark_X11_isBetween : GoodIn wsX11_neededMark wsX11_isBetween := goodIn_r _ [31] (by decide +kernel) (by decide +kernel)
set_option maxRecDepth 20000 in
theorem gX11_neededMark_X11_isBetween : GoodIn wsX11_neededMark (va_wsS RX11 30 yX11_isBetween wsX11_isBetween) := goodIn_app (goodIn_of _ (by decide +kernel)) ggX11_neededMark_X11_isBetween
set_option maxRecDepth 20000 in
theorem ggX11_neededMark_X11_requireArgument : GoodIn wsX11_neededMark wsX11_requireArgument := goodIn_ca (goodIn_r _ [34, 35, 36] (by decide +kernel) (by decide +kernel)) (goodIn_sub (fun _ h => List.mem_cons_of_mem _ (List.mem_append_left _ (List.mem_append_right _ h))) (by decide +kernel))
set_option maxRecDepth 20000 in
theorem gX11_neededMark_X11_requireArgument : GoodIn wsX11_neededMark (va_wsS RX11 34 yX11_requireArgument wsX11_requireArgument) := goodIn_app (goodIn_of _ (by decide +kernel)) ggX11_neededMark_X11_requireArgument
set_option maxRecDepth 20000 in
theorem ggX11_neededMark_X11_requireState : GoodIn wsX11_neededMark wsX11_requireState := goodIn_ca (goodIn_r _ [39, 40, 41] (by decide +kernel) (by decide +kernel)) (goodIn_sub (fun _ h => List.mem_cons_of_mem _ (List.mem_append_right _ h)) (by decide +kernel))
set_option maxRecDepth 20000 in
theorem gX11_neededMark_X11_requireState : GoodIn wsX11_neededMark (va_wsS RX11 51 yX11_requireState wsX11_requireState) := goodIn_app (goodIn_of _ (by decide +kernel)) ggX11_neededMark_X11_requireState
set_option maxRecDepth 20000 in
theorem ggX11_neededMark_X7_hasPlayed : GoodIn wsX11_neededMark wsX7_hasPlayed := goodIn_r _ [46, 47, 48, 49, 45, 50, 51, 30, 6, 31, 107, 108, 109, 110, 111] (by decide +kernel) (by decide +kernel)
set_option maxRecDepth 20000 in
theorem gX11_neededMark_X7_hasPlayed : GoodIn wsX11_neededMark (wsV RX11 223 RX7 yX7_hasPlayed wsX7_hasPlayed) := goodIn_app (goodIn_of _ (by decide +kernel)) ggX11_neededMark_X7_hasPlayed
set_option maxRecDepth 20000 in
theorem ggX11_neededMark_X3_isBarred : GoodIn wsX11_neededMark wsX3_isBarred := goodIn_r _ [55, 56, 103, 104] (by decide +kernel) (by decide +kernel)
set_option maxRecDepth 20000 in
theorem gX11_neededMark_X3_isBarred : GoodIn wsX11_neededMark (wsV RX11 91 RX3 yX3_isBarred wsX3_isBarred) := goodIn_app (goodIn_of _ (by decide +kernel)) ggX11_neededMark_X3_isBarred
set_option maxRecDepth 20000 in
theorem ggX11_neededMark_X0_scoreWith : GoodIn wsX11_neededMark wsX0_scoreWith := goodIn_r _ [61, 62, 63, 64, 65, 66, 67, 68, 69, 70, 71, 72, 11, 73, 13, 74, 75, 76, 77, 78, 79, 80, 81, 82, 83, 84, 53, 54, 55, 56, 85, 48, 49, 45, 50, 51, 30, 6, 31, 89, 90, 91, 92, 93, 94, 95, 96, 97, 98, 99, 100, 101, 102, 103, 104, 112, 107, 108, 109, 110, 111] (by decide +kernel) (by decide +kernel)
set_option maxRecDepth 20000 in
theorem gX11_neededMark_X0_scoreWith : GoodIn wsX11_neededMark (wsV RX11 268 RX0 yX0_scoreWith wsX0_scoreWith) := goodIn_app (goodIn_of _ (by decide +kernel)) ggX11_neededMark_X0_scoreWith
theorem dX11_neededMark_0 : decode cX11_neededMark 0 = .ok (.aload_n 0, 1) := by decide +kernel
theorem dX11_neededMark_1 : decode cX11_neededMark 1 = .ok (.iload_n 1, 1) := by decide +kernel
theorem dX11_neededMark_2 : decode cX11_neededMark 2 = .ok (.iload_n 2, 1) := by decide +kernel
theorem dX11_neededMark_3 : decode cX11_neededMark 3 = .ok (.invokevirtual 83, 3) := by decide +kernel
theorem dX11_neededMark_6 : decode cX11_neededMark 6 = .ok (.iload_n 3, 1) := by decide +kernel
theorem dX11_neededMark_7 : decode cX11_neededMark 7 = .ok (.iconst 0, 1) := by decide +kernel
theorem dX11_neededMark_8 : decode cX11_neededMark 8 = .ok (.ldc_w 267, 3) := by decide +kernel
theorem dX11_neededMark_11 : decode cX11_neededMark 11 = .ok (.invokestatic 30, 3) := by decide +kernel
theorem dX11_neededMark_14 : decode cX11_neededMark 14 = .ok (.invokestatic 34, 3) := by decide +kernel
theorem dX11_neededMark_17 : decode cX11_neededMark 17 = .ok (.aload_n 0, 1) := by decide +kernel
theorem dX11_neededMark_18 : decode cX11_neededMark 18 = .ok (.getfield 10, 3) := by decide +kernel
theorem dX11_neededMark_21 : decode cX11_neededMark 21 = .ok (.getfield 38, 3) := by decide +kernel
theorem dX11_neededMark_24 : decode cX11_neededMark 24 = .ok (.iconst 1, 1) := by decide +kernel
theorem dX11_neededMark_25 : decode cX11_neededMark 25 = .ok (.if_icmp .ne 7, 3) := by decide +kernel
theorem dX11_neededMark_28 : decode cX11_neededMark 28 = .ok (.iconst 1, 1) := by decide +kernel
theorem dX11_neededMark_29 : decode cX11_neededMark 29 = .ok (.goto 4, 3) := by decide +kernel
theorem dX11_neededMark_32 : decode cX11_neededMark 32 = .ok (.iconst 0, 1) := by decide +kernel
theorem dX11_neededMark_33 : decode cX11_neededMark 33 = .ok (.invokestatic 51, 3) := by decide +kernel
theorem dX11_neededMark_36 : decode cX11_neededMark 36 = .ok (.aload_n 0, 1) := by decide +kernel
theorem dX11_neededMark_37 : decode cX11_neededMark 37 = .ok (.getfield 10, 3) := by decide +kernel
theorem dX11_neededMark_40 : decode cX11_neededMark 40 = .ok (.getfield 164, 3) := by decide +kernel
theorem dX11_neededMark_43 : decode cX11_neededMark 43 = .ok (.iload_n 2, 1) := by decide +kernel
theorem dX11_neededMark_44 : decode cX11_neededMark 44 = .ok (.invokevirtual 223, 3) := by decide +kernel
theorem dX11_neededMark_47 : decode cX11_neededMark 47 = .ok (.ifCond .eq 22, 3) := by decide +kernel
theorem dX11_neededMark_50 : decode cX11_neededMark 50 = .ok (.aload_n 0, 1) := by decide +kernel
theorem dX11_neededMark_51 : decode cX11_neededMark 51 = .ok (.getfield 10, 3) := by decide +kernel
theorem dX11_neededMark_54 : decode cX11_neededMark 54 = .ok (.getfield 87, 3) := by decide +kernel
theorem dX11_neededMark_57 : decode cX11_neededMark 57 = .ok (.iload_n 1, 1) := by decide +kernel
theorem dX11_neededMark_58 : decode cX11_neededMark 58 = .ok (.iload_n 2, 1) := by decide +kernel
theorem dX11_neededMark_59 : decode cX11_neededMark 59 = .ok (.invokevirtual 91, 3) := by decide +kernel
theorem dX11_neededMark_62 : decode cX11_neededMark 62 = .ok (.ifCond .ne 7, 3) := by decide +kernel
theorem dX11_neededMark_65 : decode cX11_neededMark 65 = .ok (.iconst 1, 1) := by decide +kernel
theorem dX11_neededMark_66 : decode cX11_neededMark 66 = .ok (.goto 4, 3) := by decide +kernel
theorem dX11_neededMark_69 : decode cX11_neededMark 69 = .ok (.iconst 0, 1) := by decide +kernel
theorem dX11_neededMark_70 : decode cX11_neededMark 70 = .ok (.invokestatic 51, 3) := by decide +kernel
theorem dX11_neededMark_73 : decode cX11_neededMark 73 = .ok (.iconst 0, 1) := by decide +kernel
theorem dX11_neededMark_74 : decode cX11_neededMark 74 = .ok (.istore 4, 2) := by decide +kernel
theorem dX11_neededMark_76 : decode cX11_neededMark 76 = .ok (.iload 4, 2) := by decide +kernel
theorem dX11_neededMark_78 : decode cX11_neededMark 78 = .ok (.bipush 100, 2) := by decide +kernel
theorem dX11_neededMark_80 : decode cX11_neededMark 80 = .ok (.if_icmp .gt 27, 3) := by decide +kernel
theorem dX11_neededMark_83 : decode cX11_neededMark 83 = .ok (.aload_n 0, 1) := by decide +kernel
theorem dX11_neededMark_84 : decode cX11_neededMark 84 = .ok (.getfield 10, 3) := by decide +kernel
theorem dX11_neededMark_87 : decode cX11_neededMark 87 = .ok (.iload_n 1, 1) := by decide +kernel
theorem dX11_neededMark_88 : decode cX11_neededMark 88 = .ok (.iload_n 2, 1) := by decide +kernel
theorem dX11_neededMark_89 : decode cX11_neededMark 89 = .ok (.iload 4, 2) := by decide +kernel
theorem dX11_neededMark_91 : decode cX11_neededMark 91 = .ok (.invokevirtual 268, 3) := by decide +kernel
theorem dX11_neededMark_94 : decode cX11_neededMark 94 = .ok (.iload_n 3, 1) := by decide +kernel
theorem dX11_neededMark_95 : decode cX11_neededMark 95 = .ok (.if_icmp .lt 6, 3) := by decide +kernel
theorem dX11_neededMark_98 : decode cX11_neededMark 98 = .ok (.iload 4, 2) := by decide +kernel
theorem dX11_neededMark_100 : decode cX11_neededMark 100 = .ok (.ireturn, 1) := by decide +kernel
theorem dX11_neededMark_101 : decode cX11_neededMark 101 = .ok (.iinc 4 1, 3) := by decide +kernel
theorem dX11_neededMark_104 : decode cX11_neededMark 104 = .ok (.goto (-28), 3) := by decide +kernel
theorem dX11_neededMark_107 : decode cX11_neededMark 107 = .ok (.iconst (-1), 1) := by decide +kernel
theorem dX11_neededMark_108 : decode cX11_neededMark 108 = .ok (.ireturn, 1) := by decide +kernel
set_option maxRecDepth 20000 in
theorem ggX11_strangestJuror_X0_distanceOf : GoodIn wsX11_strangestJuror wsX0_distanceOf := goodIn_r _ [6, 7, 8, 9, 10, 11, 12, 13, 14, 15, 16, 17, 18, 19, 20, 21, 22, 23, 24, 25, 26, 27, 28, 29, 30, 31, 32, 33, 34, 35, 36, 37, 38, 39, 40, 41, 42, 43, 44, 45, 46, 47, 48, 49, 53, 54, 55, 56, 57, 58, 59, 60, 61, 62, 63, 64, 65, 66, 69, 70, 71, 72, 73, 67, 68, 74] (by decide +kernel) (by decide +kernel)
set_option maxRecDepth 20000 in
theorem gX11_strangestJuror_X0_distanceOf : GoodIn wsX11_strangestJuror (wsV RX11 274 RX0 yX0_distanceOf wsX0_distanceOf) := goodIn_app (goodIn_of _ (by decide +kernel)) ggX11_strangestJuror_X0_distanceOf
theorem dX11_strangestJuror_0 : decode cX11_strangestJuror 0 = .ok (.aload_n 0, 1) := by decide +kernel
theorem dX11_strangestJuror_1 : decode cX11_strangestJuror 1 = .ok (.getfield 10, 3) := by decide +kernel
theorem dX11_strangestJuror_4 : decode cX11_strangestJuror 4 = .ok (.getfield 38, 3) := by decide +kernel
theorem dX11_strangestJuror_7 : decode cX11_strangestJuror 7 = .ok (.iconst 1, 1) := by decide +kernel
theorem dX11_strangestJuror_8 : decode cX11_strangestJuror 8 = .ok (.if_icmp .eq 5, 3) := by decide +kernel
theorem dX11_strangestJuror_11 : decode cX11_strangestJuror 11 = .ok (.iconst (-1), 1) := by decide +kernel
theorem dX11_strangestJuror_12 : decode cX11_strangestJuror 12 = .ok (.ireturn, 1) := by decide +kernel
theorem dX11_strangestJuror_13 : decode cX11_strangestJuror 13 = .ok (.iconst (-1), 1) := by decide +kernel
theorem dX11_strangestJuror_14 : decode cX11_strangestJuror 14 = .ok (.istore_n 1, 1) := by decide +kernel
theorem dX11_strangestJuror_15 : decode cX11_strangestJuror 15 = .ok (.iconst (-1), 1) := by decide +kernel
theorem dX11_strangestJuror_16 : decode cX11_strangestJuror 16 = .ok (.istore_n 2, 1) := by decide +kernel
theorem dX11_strangestJuror_17 : decode cX11_strangestJuror 17 = .ok (.iconst 0, 1) := by decide +kernel
theorem dX11_strangestJuror_18 : decode cX11_strangestJuror 18 = .ok (.istore_n 3, 1) := by decide +kernel
theorem dX11_strangestJuror_19 : decode cX11_strangestJuror 19 = .ok (.iload_n 3, 1) := by decide +kernel
theorem dX11_strangestJuror_20 : decode cX11_strangestJuror 20 = .ok (.aload_n 0, 1) := by decide +kernel
theorem dX11_strangestJuror_21 : decode cX11_strangestJuror 21 = .ok (.getfield 10, 3) := by decide +kernel
theorem dX11_strangestJuror_24 : decode cX11_strangestJuror 24 = .ok (.getfield 87, 3) := by decide +kernel
theorem dX11_strangestJuror_27 : decode cX11_strangestJuror 27 = .ok (.getfield 271, 3) := by decide +kernel
theorem dX11_strangestJuror_30 : decode cX11_strangestJuror 30 = .ok (.if_icmp .ge 30, 3) := by decide +kernel
theorem dX11_strangestJuror_33 : decode cX11_strangestJuror 33 = .ok (.aload_n 0, 1) := by decide +kernel
theorem dX11_strangestJuror_34 : decode cX11_strangestJuror 34 = .ok (.getfield 10, 3) := by decide +kernel
theorem dX11_strangestJuror_37 : decode cX11_strangestJuror 37 = .ok (.iload_n 3, 1) := by decide +kernel
theorem dX11_strangestJuror_38 : decode cX11_strangestJuror 38 = .ok (.invokevirtual 274, 3) := by decide +kernel
theorem dX11_strangestJuror_41 : decode cX11_strangestJuror 41 = .ok (.istore 4, 2) := by decide +kernel
theorem dX11_strangestJuror_43 : decode cX11_strangestJuror 43 = .ok (.iload 4, 2) := by decide +kernel
theorem dX11_strangestJuror_45 : decode cX11_strangestJuror 45 = .ok (.iload_n 2, 1) := by decide +kernel
theorem dX11_strangestJuror_46 : decode cX11_strangestJuror 46 = .ok (.if_icmp .le 8, 3) := by decide +kernel
theorem dX11_strangestJuror_49 : decode cX11_strangestJuror 49 = .ok (.iload 4, 2) := by decide +kernel
theorem dX11_strangestJuror_51 : decode cX11_strangestJuror 51 = .ok (.istore_n 2, 1) := by decide +kernel
theorem dX11_strangestJuror_52 : decode cX11_strangestJuror 52 = .ok (.iload_n 3, 1) := by decide +kernel
theorem dX11_strangestJuror_53 : decode cX11_strangestJuror 53 = .ok (.istore_n 1, 1) := by decide +kernel
theorem dX11_strangestJuror_54 : decode cX11_strangestJuror 54 = .ok (.iinc 3 1, 3) := by decide +kernel
theorem dX11_strangestJuror_57 : decode cX11_strangestJuror 57 = .ok (.goto (-38), 3) := by decide +kernel
theorem dX11_strangestJuror_60 : decode cX11_strangestJuror 60 = .ok (.iload_n 1, 1) := by decide +kernel
theorem dX11_strangestJuror_61 : decode cX11_strangestJuror 61 = .ok (.ireturn, 1) := by decide +kernel
set_option maxRecDepth 20000 in
theorem ggX11_type_X11_isBetween : GoodIn wsX11_type wsX11_isBetween := goodIn_r _ [5] (by decide +kernel) (by decide +kernel)
set_option maxRecDepth 20000 in
theorem gX11_type_X11_isBetween : GoodIn wsX11_type (va_wsS RX11 30 yX11_isBetween wsX11_isBetween) := goodIn_app (goodIn_of _ (by decide +kernel)) ggX11_type_X11_isBetween
set_option maxRecDepth 20000 in
theorem ggX11_type_X11_requireArgument : GoodIn wsX11_type wsX11_requireArgument := goodIn_ca (goodIn_r _ [8, 9, 10] (by decide +kernel) (by decide +kernel)) (goodIn_sub (fun _ h => List.mem_cons_of_mem _ (List.mem_append_left _ (List.mem_append_right _ h))) (by decide +kernel))
set_option maxRecDepth 20000 in
theorem gX11_type_X11_requireArgument : GoodIn wsX11_type (va_wsS RX11 34 yX11_requireArgument wsX11_requireArgument) := goodIn_app (goodIn_of _ (by decide +kernel)) ggX11_type_X11_requireArgument
set_option maxRecDepth 20000 in
theorem ggX11_type_X11_requireState : GoodIn wsX11_type wsX11_requireState := goodIn_ca (goodIn_r _ [13, 14, 15] (by decide +kernel) (by decide +kernel)) (goodIn_sub (fun _ h => List.mem_cons_of_mem _ (List.mem_append_right _ h)) (by decide +kernel))
set_option maxRecDepth 20000 in
theorem gX11_type_X11_requireState : GoodIn wsX11_type (va_wsS RX11 51 yX11_requireState wsX11_requireState) := goodIn_app (goodIn_of _ (by decide +kernel)) ggX11_type_X11_requireState
set_option maxRecDepth 20000 in
theorem ggX11_type_X8_append : GoodIn wsX11_type wsX8_append := goodIn_r _ [20, 21, 22, 26, 27, 28, 29, 30] (by decide +kernel) (by decide +kernel)
set_option maxRecDepth 20000 in
theorem gX11_type_X8_append : GoodIn wsX11_type (wsV RX11 280 RX8 yX8_append wsX8_append) := goodIn_app (goodIn_of _ (by decide +kernel)) ggX11_type_X8_append
theorem dX11_type_0 : decode cX11_type 0 = .ok (.iload_n 1, 1) := by decide +kernel
theorem dX11_type_1 : decode cX11_type 1 = .ok (.bipush 32, 2) := by decide +kernel
theorem dX11_type_3 : decode cX11_type 3 = .ok (.bipush 126, 2) := by decide +kernel
theorem dX11_type_5 : decode cX11_type 5 = .ok (.invokestatic 30, 3) := by decide +kernel
theorem dX11_type_8 : decode cX11_type 8 = .ok (.invokestatic 34, 3) := by decide +kernel
theorem dX11_type_11 : decode cX11_type 11 = .ok (.aload_n 0, 1) := by decide +kernel
theorem dX11_type_12 : decode cX11_type 12 = .ok (.getfield 26, 3) := by decide +kernel
theorem dX11_type_15 : decode cX11_type 15 = .ok (.getfield 277, 3) := by decide +kernel
theorem dX11_type_18 : decode cX11_type 18 = .ok (.bipush 40, 2) := by decide +kernel
theorem dX11_type_20 : decode cX11_type 20 = .ok (.if_icmp .ge 7, 3) := by decide +kernel
theorem dX11_type_23 : decode cX11_type 23 = .ok (.iconst 1, 1) := by decide +kernel
theorem dX11_type_24 : decode cX11_type 24 = .ok (.goto 4, 3) := by decide +kernel
theorem dX11_type_27 : decode cX11_type 27 = .ok (.iconst 0, 1) := by decide +kernel
theorem dX11_type_28 : decode cX11_type 28 = .ok (.invokestatic 51, 3) := by decide +kernel
theorem dX11_type_31 : decode cX11_type 31 = .ok (.aload_n 0, 1) := by decide +kernel
theorem dX11_type_32 : decode cX11_type 32 = .ok (.getfield 26, 3) := by decide +kernel
theorem dX11_type_35 : decode cX11_type 35 = .ok (.iload_n 1, 1) := by decide +kernel
theorem dX11_type_36 : decode cX11_type 36 = .ok (.invokevirtual 280, 3) := by decide +kernel
theorem dX11_type_39 : decode cX11_type 39 = .ok (.ireturn, 1) := by decide +kernel
theorem dX11_clearText_0 : decode cX11_clearText 0 = .ok (.aload_n 0, 1) := by decide +kernel
theorem dX11_clearText_1 : decode cX11_clearText 1 = .ok (.getfield 26, 3) := by decide +kernel
theorem dX11_clearText_4 : decode cX11_clearText 4 = .ok (.getfield 277, 3) := by decide +kernel
theorem dX11_clearText_7 : decode cX11_clearText 7 = .ok (.istore_n 1, 1) := by decide +kernel
theorem dX11_clearText_8 : decode cX11_clearText 8 = .ok (.aload_n 0, 1) := by decide +kernel
theorem dX11_clearText_9 : decode cX11_clearText 9 = .ok (.getfield 26, 3) := by decide +kernel
theorem dX11_clearText_12 : decode cX11_clearText 12 = .ok (.iconst 0, 1) := by decide +kernel
theorem dX11_clearText_13 : decode cX11_clearText 13 = .ok (.putfield 277, 3) := by decide +kernel
theorem dX11_clearText_16 : decode cX11_clearText 16 = .ok (.iload_n 1, 1) := by decide +kernel
theorem dX11_clearText_17 : decode cX11_clearText 17 = .ok (.ireturn, 1) := by decide +kernel
set_option maxRecDepth 20000 in
theorem ggX11_fault_X8_faultAmong : GoodIn wsX11_fault wsX8_faultAmong := goodIn_r _ [7, 8, 9, 10, 11, 12, 13, 6, 14, 15, 16, 17, 18, 19, 20, 21, 22, 23, 24, 25, 26, 27, 49, 50, 51, 52, 53] (by decide +kernel) (by decide +kernel)
set_option maxRecDepth 20000 in
theorem gX11_fault_X8_faultAmong : GoodIn wsX11_fault (wsV RX11 132 RX8 yX8_faultAmong wsX8_faultAmong) := goodIn_app (goodIn_of _ (by decide +kernel)) ggX11_fault_X8_faultAmong
theorem dX11_fault_0 : decode cX11_fault 0 = .ok (.aload_n 0, 1) := by decide +kernel
theorem dX11_fault_1 : decode cX11_fault 1 = .ok (.getfield 26, 3) := by decide +kernel
theorem dX11_fault_4 : decode cX11_fault 4 = .ok (.aload_n 0, 1) := by decide +kernel
theorem dX11_fault_5 : decode cX11_fault 5 = .ok (.getfield 10, 3) := by decide +kernel
theorem dX11_fault_8 : decode cX11_fault 8 = .ok (.getfield 42, 3) := by decide +kernel
theorem dX11_fault_11 : decode cX11_fault 11 = .ok (.getfield 46, 3) := by decide +kernel
theorem dX11_fault_14 : decode cX11_fault 14 = .ok (.invokevirtual 132, 3) := by decide +kernel
theorem dX11_fault_17 : decode cX11_fault 17 = .ok (.ireturn, 1) := by decide +kernel
set_option maxRecDepth 20000 in
theorem ggX11_undo_X11_requireState : GoodIn wsX11_undo wsX11_requireState := goodIn_ca (goodIn_r _ [6, 7, 8] (by decide +kernel) (by decide +kernel)) (goodIn_sub (fun _ h => List.mem_cons_of_mem _ (List.mem_append_right _ h)) (by decide +kernel))
set_option maxRecDepth 20000 in
theorem gX11_undo_X11_requireState : GoodIn wsX11_undo (va_wsS RX11 51 yX11_requireState wsX11_requireState) := goodIn_app (goodIn_of _ (by decide +kernel)) ggX11_undo_X11_requireState
set_option maxRecDepth 20000 in
theorem ggX11_undo_X5_restore : GoodIn wsX11_undo wsX5_restore := goodIn_r _ [13, 14, 15, 16, 17, 18, 19, 20, 21, 22, 23, 24, 25, 26, 27, 28, 29, 30, 31, 32, 33, 34, 35, 36, 37, 38, 39, 40, 41, 42, 43, 5, 44, 45, 46, 47, 48, 49, 50, 51, 52, 53, 54, 55, 56, 57, 58, 59, 60, 61, 62, 63, 64, 65, 66, 67, 68, 69, 70, 71, 72, 73, 74, 75, 76, 77, 78, 79, 80, 81, 82, 83, 84, 85, 86, 87, 88, 89, 90, 91, 92, 93, 94, 95, 96, 97, 98, 99, 100, 104, 105, 106, 107, 108, 109, 110, 111, 112, 113, 114, 115, 116, 117, 118, 119, 120, 121, 122, 123, 124, 125, 126, 127, 128, 129, 130, 131, 132, 133, 134, 135, 136, 137, 138] (by decide +kernel) (by decide +kernel)
set_option maxRecDepth 20000 in
theorem gX11_undo_X5_restore : GoodIn wsX11_undo (wsV RX11 283 RX5 yX5_restore wsX5_restore) := goodIn_app (goodIn_of _ (by decide +kernel)) ggX11_undo_X5_restore
theorem dX11_undo_0 : decode cX11_undo 0 = .ok (.aload_n 0, 1) := by decide +kernel
theorem dX11_undo_1 : decode cX11_undo 1 = .ok (.getfield 19, 3) := by decide +kernel
theorem dX11_undo_4 : decode cX11_undo 4 = .ok (.getfield 282, 3) := by decide +kernel
theorem dX11_undo_7 : decode cX11_undo 7 = .ok (.ifCond .le 7, 3) := by decide +kernel
theorem dX11_undo_10 : decode cX11_undo 10 = .ok (.iconst 1, 1) := by decide +kernel
theorem dX11_undo_11 : decode cX11_undo 11 = .ok (.goto 4, 3) := by decide +kernel
theorem dX11_undo_14 : decode cX11_undo 14 = .ok (.iconst 0, 1) := by decide +kernel
theorem dX11_undo_15 : decode cX11_undo 15 = .ok (.invokestatic 51, 3) := by decide +kernel
theorem dX11_undo_18 : decode cX11_undo 18 = .ok (.aload_n 0, 1) := by decide +kernel
theorem dX11_undo_19 : decode cX11_undo 19 = .ok (.getfield 19, 3) := by decide +kernel
theorem dX11_undo_22 : decode cX11_undo 22 = .ok (.aload_n 0, 1) := by decide +kernel
theorem dX11_undo_23 : decode cX11_undo 23 = .ok (.getfield 10, 3) := by decide +kernel
theorem dX11_undo_26 : decode cX11_undo 26 = .ok (.invokevirtual 283, 3) := by decide +kernel
theorem dX11_undo_29 : decode cX11_undo 29 = .ok (.ireturn, 1) := by decide +kernel
set_option maxRecDepth 20000 in
theorem ggX11_checksum_X0_tell : GoodIn wsX11_checksum wsX0_tell := goodIn_r _ [9, 10, 11, 12, 13, 14, 15, 16, 17, 18, 19, 20, 21, 22, 23, 24, 25, 26, 27, 28, 29, 30, 31, 32, 33, 34, 35, 36, 37, 38, 39, 244, 245, 246, 247, 248, 249, 250, 251, 252, 253, 254, 255, 256, 257, 272, 273, 274, 275, 276, 277, 258, 259, 260, 261, 262, 263, 264, 278, 279, 280, 281] (by decide +kernel) (by decide +kernel)
set_option maxRecDepth 20000 in
theorem gX11_checksum_X0_tell : GoodIn wsX11_checksum (wsV RX11 108 RX0 yX0_tell wsX0_tell) := goodIn_app (goodIn_of _ (by decide +kernel)) ggX11_checksum_X0_tell
set_option maxRecDepth 20000 in
theorem ggX11_checksum_X11_mix : GoodIn wsX11_checksum wsX11_mix := goodIn_r _ [43, 44] (by decide +kernel) (by decide +kernel)
set_option maxRecDepth 20000 in
theorem gX11_checksum_X11_mix : GoodIn wsX11_checksum (va_wsS RX11 289 yX11_mix wsX11_mix) := goodIn_app (goodIn_of _ (by decide +kernel)) ggX11_checksum_X11_mix
set_option maxRecDepth 20000 in
theorem ggX11_checksum_X11_mixWorks : GoodIn wsX11_checksum wsX11_mixWorks := goodIn_r _ [48, 2, 49, 50, 51, 52, 53, 54, 55, 56, 57, 58, 59, 60, 61, 62, 63, 64, 65, 66, 67, 68, 69, 70, 71, 72, 73, 40, 41, 42, 43, 44, 241, 242, 243, 244, 245, 246, 247, 248, 249, 250, 251, 252, 253, 254, 255, 256, 257, 274, 275, 276, 277] (by decide +kernel) (by decide +kernel)
set_option maxRecDepth 20000 in
theorem gX11_checksum_X11_mixWorks : GoodIn wsX11_checksum (wsV RX11 293 RX11 yX11_mixWorks wsX11_mixWorks) := goodIn_app (goodIn_of _ (by decide +kernel)) ggX11_checksum_X11_mixWorks
set_option maxRecDepth 20000 in
theorem ggX11_checksum_X11_mixRules : GoodIn wsX11_checksum wsX11_mixRules := goodIn_r _ [77, 2, 40, 41, 42, 43, 44, 241, 242, 243, 244, 245, 246, 247, 248, 249, 250, 251, 252, 253, 254, 255, 256, 257] (by decide +kernel) (by decide +kernel)
set_option maxRecDepth 20000 in
theorem gX11_checksum_X11_mixRules : GoodIn wsX11_checksum (wsV RX11 297 RX11 yX11_mixRules wsX11_mixRules) := goodIn_app (goodIn_of _ (by decide +kernel)) ggX11_checksum_X11_mixRules
set_option maxRecDepth 20000 in
theorem ggX11_checksum_X11_mixEntrant : GoodIn wsX11_checksum wsX11_mixEntrant := goodIn_r _ [81, 2, 82, 83, 84, 8, 85, 16, 17, 18, 10, 86, 26, 27, 22, 28, 29, 30, 31, 32, 33, 24, 87, 88, 89, 90, 91, 92, 93, 94, 95, 96, 97, 98, 99, 100, 101, 102, 103, 42, 104, 105, 106, 107, 108, 109, 110, 111, 112, 13, 113, 114, 115, 116, 117, 118, 119, 120, 121, 122, 123, 124, 125, 126, 127, 128, 129, 130, 131, 132, 133, 134, 135, 136, 137, 138, 139, 140, 141, 142, 143, 144, 145, 146, 12, 147, 148, 149, 150, 151, 152, 153, 154, 155, 156, 157, 158, 159, 160, 161, 162, 163, 164, 165, 166, 167, 168, 169, 170, 37, 171, 39, 172, 173, 174, 175, 176, 40, 41, 43, 44, 241, 242, 243, 244, 245, 246, 247, 248, 249, 250, 251, 252, 253, 254, 255, 256, 257, 278, 279, 280, 281, 258, 259, 260, 261, 262, 263, 264, 272, 273, 282] (by decide +kernel) (by decide +kernel)
set_option maxRecDepth 20000 in
theorem gX11_checksum_X11_mixEntrant : GoodIn wsX11_checksum (wsV RX11 300 RX11 yX11_mixEntrant wsX11_mixEntrant) := goodIn_app (goodIn_of _ (by decide +kernel)) ggX11_checksum_X11_mixEntrant
set_option maxRecDepth 20000 in
theorem ggX11_checksum_X11_mixPrograms : GoodIn wsX11_checksum wsX11_mixPrograms := goodIn_r _ [180, 2, 181, 182, 183, 184, 185, 186, 187, 188, 189, 190, 191, 192, 193, 194, 195, 196, 197, 198, 199, 70, 71, 52, 72, 73, 59, 60, 61, 62, 63, 200, 201, 202, 203, 204, 65, 66, 67, 68, 205, 206, 207, 208, 209, 144, 145, 146, 210, 55, 56, 57, 58, 211, 212, 213, 214, 215, 216, 217, 218, 40, 41, 42, 43, 44, 219, 241, 242, 243, 244, 245, 246, 247, 248, 249, 250, 251, 252, 253, 254, 255, 256, 257, 283, 274, 275, 276, 277] (by decide +kernel) (by decide +kernel)
set_option maxRecDepth 20000 in
theorem gX11_checksum_X11_mixPrograms : GoodIn wsX11_checksum (wsV RX11 303 RX11 yX11_mixPrograms wsX11_mixPrograms) := goodIn_app (goodIn_of _ (by decide +kernel)) ggX11_checksum_X11_mixPrograms
set_option maxRecDepth 20000 in
theorem ggX11_checksum_X11_mixSheets : GoodIn wsX11_checksum wsX11_mixSheets := goodIn_r _ [223, 2, 224, 131, 132, 117, 133, 134, 40, 41, 42, 43, 44, 225, 125, 126, 127, 128, 129, 241, 242, 243, 244, 245, 246, 247, 248, 249, 250, 251, 252, 253, 254, 255, 256, 257, 272, 273, 278, 279, 280, 281, 282] (by decide +kernel) (by decide +kernel)
set_option maxRecDepth 20000 in
theorem gX11_checksum_X11_mixSheets : GoodIn wsX11_checksum (wsV RX11 306 RX11 yX11_mixSheets wsX11_mixSheets) := goodIn_app (goodIn_of _ (by decide +kernel)) ggX11_checksum_X11_mixSheets
set_option maxRecDepth 20000 in
theorem ggX11_checksum_X7_playerAt : GoodIn wsX11_checksum wsX7_playerAt := goodIn_r _ [96, 92, 97, 260, 261, 262, 263, 264] (by decide +kernel) (by decide +kernel)
set_option maxRecDepth 20000 in
theorem gX11_checksum_X7_playerAt : GoodIn wsX11_checksum (wsV RX11 252 RX7 yX7_playerAt wsX7_playerAt) := goodIn_app (goodIn_of _ (by decide +kernel)) ggX11_checksum_X7_playerAt
set_option maxRecDepth 20000 in
theorem ggX11_checksum_X11_strangestJuror : GoodIn wsX11_checksum wsX11_strangestJuror := goodIn_r _ [230, 2, 231, 232, 233, 8, 234, 17, 10, 113, 235, 236, 145, 237, 143, 144, 146, 238, 94, 95, 90, 96, 92, 97, 147, 148, 149, 117, 150, 119, 151, 152, 153, 154, 124, 125, 126, 127, 128, 129, 130, 131, 132, 133, 134, 239, 121, 122, 123, 240, 241, 242, 243, 244, 245, 246, 247, 248, 249, 250, 251, 252, 253, 254, 255, 256, 257, 272, 273, 260, 261, 262, 263, 264, 282] (by decide +kernel) (by decide +kernel)
set_option maxRecDepth 20000 in
theorem gX11_checksum_X11_strangestJuror : GoodIn wsX11_checksum (wsV RX11 309 RX11 yX11_strangestJuror wsX11_strangestJuror) := goodIn_app (goodIn_of _ (by decide +kernel)) ggX11_checksum_X11_strangestJuror
theorem dX11_checksum_0 : decode cX11_checksum 0 = .ok (.ldc2_w 287, 3) := by decide +kernel
theorem dX11_checksum_3 : decode cX11_checksum 3 = .ok (.lstore_n 1, 1) := by decide +kernel
theorem dX11_checksum_4 : decode cX11_checksum 4 = .ok (.iconst 0, 1) := by decide +kernel
theorem dX11_checksum_5 : decode cX11_checksum 5 = .ok (.istore_n 3, 1) := by decide +kernel
theorem dX11_checksum_6 : decode cX11_checksum 6 = .ok (.iload_n 3, 1) := by decide +kernel
theorem dX11_checksum_7 : decode cX11_checksum 7 = .ok (.bipush 13, 2) := by decide +kernel
theorem dX11_checksum_9 : decode cX11_checksum 9 = .ok (.if_icmp .ge 22, 3) := by decide +kernel
theorem dX11_checksum_12 : decode cX11_checksum 12 = .ok (.lload_n 1, 1) := by decide +kernel
theorem dX11_checksum_13 : decode cX11_checksum 13 = .ok (.aload_n 0, 1) := by decide +kernel
theorem dX11_checksum_14 : decode cX11_checksum 14 = .ok (.getfield 10, 3) := by decide +kernel
theorem dX11_checksum_17 : decode cX11_checksum 17 = .ok (.iload_n 3, 1) := by decide +kernel
theorem dX11_checksum_18 : decode cX11_checksum 18 = .ok (.invokevirtual 108, 3) := by decide +kernel
theorem dX11_checksum_21 : decode cX11_checksum 21 = .ok (.invokestatic 289, 3) := by decide +kernel
theorem dX11_checksum_24 : decode cX11_checksum 24 = .ok (.lstore_n 1, 1) := by decide +kernel
theorem dX11_checksum_25 : decode cX11_checksum 25 = .ok (.iinc 3 1, 3) := by decide +kernel
theorem dX11_checksum_28 : decode cX11_checksum 28 = .ok (.goto (-22), 3) := by decide +kernel
theorem dX11_checksum_31 : decode cX11_checksum 31 = .ok (.aload_n 0, 1) := by decide +kernel
theorem dX11_checksum_32 : decode cX11_checksum 32 = .ok (.lload_n 1, 1) := by decide +kernel
theorem dX11_checksum_33 : decode cX11_checksum 33 = .ok (.invokevirtual 293, 3) := by decide +kernel
theorem dX11_checksum_36 : decode cX11_checksum 36 = .ok (.lstore_n 1, 1) := by decide +kernel
theorem dX11_checksum_37 : decode cX11_checksum 37 = .ok (.aload_n 0, 1) := by decide +kernel
theorem dX11_checksum_38 : decode cX11_checksum 38 = .ok (.lload_n 1, 1) := by decide +kernel
theorem dX11_checksum_39 : decode cX11_checksum 39 = .ok (.invokevirtual 297, 3) := by decide +kernel
theorem dX11_checksum_42 : decode cX11_checksum 42 = .ok (.lstore_n 1, 1) := by decide +kernel
theorem dX11_checksum_43 : decode cX11_checksum 43 = .ok (.iconst 0, 1) := by decide +kernel
theorem dX11_checksum_44 : decode cX11_checksum 44 = .ok (.istore_n 3, 1) := by decide +kernel
theorem dX11_checksum_45 : decode cX11_checksum 45 = .ok (.iload_n 3, 1) := by decide +kernel
theorem dX11_checksum_46 : decode cX11_checksum 46 = .ok (.aload_n 0, 1) := by decide +kernel
theorem dX11_checksum_47 : decode cX11_checksum 47 = .ok (.getfield 10, 3) := by decide +kernel
theorem dX11_checksum_50 : decode cX11_checksum 50 = .ok (.getfield 73, 3) := by decide +kernel
theorem dX11_checksum_53 : decode cX11_checksum 53 = .ok (.getfield 77, 3) := by decide +kernel
theorem dX11_checksum_56 : decode cX11_checksum 56 = .ok (.if_icmp .ge 30, 3) := by decide +kernel
theorem dX11_checksum_59 : decode cX11_checksum 59 = .ok (.aload_n 0, 1) := by decide +kernel
theorem dX11_checksum_60 : decode cX11_checksum 60 = .ok (.lload_n 1, 1) := by decide +kernel
theorem dX11_checksum_61 : decode cX11_checksum 61 = .ok (.iload_n 3, 1) := by decide +kernel
theorem dX11_checksum_62 : decode cX11_checksum 62 = .ok (.invokevirtual 300, 3) := by decide +kernel
theorem dX11_checksum_65 : decode cX11_checksum 65 = .ok (.lstore_n 1, 1) := by decide +kernel
theorem dX11_checksum_66 : decode cX11_checksum 66 = .ok (.aload_n 0, 1) := by decide +kernel
theorem dX11_checksum_67 : decode cX11_checksum 67 = .ok (.lload_n 1, 1) := by decide +kernel
theorem dX11_checksum_68 : decode cX11_checksum 68 = .ok (.iload_n 3, 1) := by decide +kernel
theorem dX11_checksum_69 : decode cX11_checksum 69 = .ok (.invokevirtual 303, 3) := by decide +kernel
theorem dX11_checksum_72 : decode cX11_checksum 72 = .ok (.lstore_n 1, 1) := by decide +kernel
theorem dX11_checksum_73 : decode cX11_checksum 73 = .ok (.aload_n 0, 1) := by decide +kernel
theorem dX11_checksum_74 : decode cX11_checksum 74 = .ok (.lload_n 1, 1) := by decide +kernel
theorem dX11_checksum_75 : decode cX11_checksum 75 = .ok (.iload_n 3, 1) := by decide +kernel
theorem dX11_checksum_76 : decode cX11_checksum 76 = .ok (.invokevirtual 306, 3) := by decide +kernel
theorem dX11_checksum_79 : decode cX11_checksum 79 = .ok (.lstore_n 1, 1) := by decide +kernel
theorem dX11_checksum_80 : decode cX11_checksum 80 = .ok (.iinc 3 1, 3) := by decide +kernel
theorem dX11_checksum_83 : decode cX11_checksum 83 = .ok (.goto (-38), 3) := by decide +kernel
theorem dX11_checksum_86 : decode cX11_checksum 86 = .ok (.iconst 0, 1) := by decide +kernel
theorem dX11_checksum_87 : decode cX11_checksum 87 = .ok (.istore_n 3, 1) := by decide +kernel
theorem dX11_checksum_88 : decode cX11_checksum 88 = .ok (.iload_n 3, 1) := by decide +kernel
theorem dX11_checksum_89 : decode cX11_checksum 89 = .ok (.aload_n 0, 1) := by decide +kernel
theorem dX11_checksum_90 : decode cX11_checksum 90 = .ok (.getfield 10, 3) := by decide +kernel
theorem dX11_checksum_93 : decode cX11_checksum 93 = .ok (.getfield 164, 3) := by decide +kernel
theorem dX11_checksum_96 : decode cX11_checksum 96 = .ok (.getfield 177, 3) := by decide +kernel
theorem dX11_checksum_99 : decode cX11_checksum 99 = .ok (.if_icmp .ge 25, 3) := by decide +kernel
theorem dX11_checksum_102 : decode cX11_checksum 102 = .ok (.lload_n 1, 1) := by decide +kernel
theorem dX11_checksum_103 : decode cX11_checksum 103 = .ok (.aload_n 0, 1) := by decide +kernel
theorem dX11_checksum_104 : decode cX11_checksum 104 = .ok (.getfield 10, 3) := by decide +kernel
theorem dX11_checksum_107 : decode cX11_checksum 107 = .ok (.getfield 164, 3) := by decide +kernel
theorem dX11_checksum_110 : decode cX11_checksum 110 = .ok (.iload_n 3, 1) := by decide +kernel
theorem dX11_checksum_111 : decode cX11_checksum 111 = .ok (.invokevirtual 252, 3) := by decide +kernel
theorem dX11_checksum_114 : decode cX11_checksum 114 = .ok (.invokestatic 289, 3) := by decide +kernel
theorem dX11_checksum_117 : decode cX11_checksum 117 = .ok (.lstore_n 1, 1) := by decide +kernel
theorem dX11_checksum_118 : decode cX11_checksum 118 = .ok (.iinc 3 1, 3) := by decide +kernel
theorem dX11_checksum_121 : decode cX11_checksum 121 = .ok (.goto (-33), 3) := by decide +kernel
theorem dX11_checksum_124 : decode cX11_checksum 124 = .ok (.lload_n 1, 1) := by decide +kernel
theorem dX11_checksum_125 : decode cX11_checksum 125 = .ok (.aload_n 0, 1) := by decide +kernel
theorem dX11_checksum_126 : decode cX11_checksum 126 = .ok (.invokevirtual 309, 3) := by decide +kernel
theorem dX11_checksum_129 : decode cX11_checksum 129 = .ok (.invokestatic 289, 3) := by decide +kernel
theorem dX11_checksum_132 : decode cX11_checksum 132 = .ok (.lstore_n 1, 1) := by decide +kernel
theorem dX11_checksum_133 : decode cX11_checksum 133 = .ok (.lload_n 1, 1) := by decide +kernel
theorem dX11_checksum_134 : decode cX11_checksum 134 = .ok (.aload_n 0, 1) := by decide +kernel
theorem dX11_checksum_135 : decode cX11_checksum 135 = .ok (.getfield 26, 3) := by decide +kernel
theorem dX11_checksum_138 : decode cX11_checksum 138 = .ok (.getfield 277, 3) := by decide +kernel
theorem dX11_checksum_141 : decode cX11_checksum 141 = .ok (.invokestatic 289, 3) := by decide +kernel
theorem dX11_checksum_144 : decode cX11_checksum 144 = .ok (.lstore_n 1, 1) := by decide +kernel
theorem dX11_checksum_145 : decode cX11_checksum 145 = .ok (.lload_n 1, 1) := by decide +kernel
theorem dX11_checksum_146 : decode cX11_checksum 146 = .ok (.aload_n 0, 1) := by decide +kernel
theorem dX11_checksum_147 : decode cX11_checksum 147 = .ok (.getfield 19, 3) := by decide +kernel
theorem dX11_checksum_150 : decode cX11_checksum 150 = .ok (.getfield 282, 3) := by decide +kernel
theorem dX11_checksum_153 : decode cX11_checksum 153 = .ok (.invokestatic 289, 3) := by decide +kernel
theorem dX11_checksum_156 : decode cX11_checksum 156 = .ok (.lreturn, 1) := by decide +kernel
theorem dX11_mix_0 : decode cX11_mix 0 = .ok (.ldc2_w 312, 3) := by decide +kernel
theorem dX11_mix_3 : decode cX11_mix 3 = .ok (.lload_n 0, 1) := by decide +kernel
theorem dX11_mix_4 : decode cX11_mix 4 = .ok (.lmul, 1) := by decide +kernel
theorem dX11_mix_5 : decode cX11_mix 5 = .ok (.iload_n 2, 1) := by decide +kernel
theorem dX11_mix_6 : decode cX11_mix 6 = .ok (.i2l, 1) := by decide +kernel
theorem dX11_mix_7 : decode cX11_mix 7 = .ok (.ladd, 1) := by decide +kernel
theorem dX11_mix_8 : decode cX11_mix 8 = .ok (.lreturn, 1) := by decide +kernel
set_option maxRecDepth 20000 in
theorem ggX11_mixWorks_X10_fact : GoodIn wsX11_mixWorks wsX10_fact := goodIn_r _ [6, 7, 8, 9, 5, 10, 11, 12, 13, 14, 15, 16, 17, 18, 19, 20, 21, 22, 23, 24, 25, 26, 49, 50, 51, 52] (by decide +kernel) (by decide +kernel)
set_option maxRecDepth 20000 in
theorem gX11_mixWorks_X10_fact : GoodIn wsX11_mixWorks (wsV RX11 69 RX10 yX10_fact wsX10_fact) := goodIn_app (goodIn_of _ (by decide +kernel)) ggX11_mixWorks_X10_fact
set_option maxRecDepth 20000 in
theorem ggX11_mixWorks_X11_mix : GoodIn wsX11_mixWorks wsX11_mix := goodIn_r _ [30, 31] (by decide +kernel) (by decide +kernel)
set_option maxRecDepth 20000 in
theorem gX11_mixWorks_X11_mix : GoodIn wsX11_mixWorks (va_wsS RX11 289 yX11_mix wsX11_mix) := goodIn_app (goodIn_of _ (by decide +kernel)) ggX11_mixWorks_X11_mix
theorem dX11_mixWorks_0 : decode cX11_mixWorks 0 = .ok (.lload_n 1, 1) := by decide +kernel
theorem dX11_mixWorks_1 : decode cX11_mixWorks 1 = .ok (.lstore_n 3, 1) := by decide +kernel
theorem dX11_mixWorks_2 : decode cX11_mixWorks 2 = .ok (.iconst 0, 1) := by decide +kernel
theorem dX11_mixWorks_3 : decode cX11_mixWorks 3 = .ok (.istore 5, 2) := by decide +kernel
theorem dX11_mixWorks_5 : decode cX11_mixWorks 5 = .ok (.iload 5, 2) := by decide +kernel
theorem dX11_mixWorks_7 : decode cX11_mixWorks 7 = .ok (.aload_n 0, 1) := by decide +kernel
theorem dX11_mixWorks_8 : decode cX11_mixWorks 8 = .ok (.getfield 10, 3) := by decide +kernel
theorem dX11_mixWorks_11 : decode cX11_mixWorks 11 = .ok (.getfield 42, 3) := by decide +kernel
theorem dX11_mixWorks_14 : decode cX11_mixWorks 14 = .ok (.getfield 46, 3) := by decide +kernel
theorem dX11_mixWorks_17 : decode cX11_mixWorks 17 = .ok (.if_icmp .ge 43, 3) := by decide +kernel
theorem dX11_mixWorks_20 : decode cX11_mixWorks 20 = .ok (.iconst 0, 1) := by decide +kernel
theorem dX11_mixWorks_21 : decode cX11_mixWorks 21 = .ok (.istore 6, 2) := by decide +kernel
theorem dX11_mixWorks_23 : decode cX11_mixWorks 23 = .ok (.iload 6, 2) := by decide +kernel
theorem dX11_mixWorks_25 : decode cX11_mixWorks 25 = .ok (.iconst 3, 1) := by decide +kernel
theorem dX11_mixWorks_26 : decode cX11_mixWorks 26 = .ok (.if_icmp .ge 28, 3) := by decide +kernel
theorem dX11_mixWorks_29 : decode cX11_mixWorks 29 = .ok (.lload_n 3, 1) := by decide +kernel
theorem dX11_mixWorks_30 : decode cX11_mixWorks 30 = .ok (.aload_n 0, 1) := by decide +kernel
theorem dX11_mixWorks_31 : decode cX11_mixWorks 31 = .ok (.getfield 10, 3) := by decide +kernel
theorem dX11_mixWorks_34 : decode cX11_mixWorks 34 = .ok (.getfield 42, 3) := by decide +kernel
theorem dX11_mixWorks_37 : decode cX11_mixWorks 37 = .ok (.iload 5, 2) := by decide +kernel
theorem dX11_mixWorks_39 : decode cX11_mixWorks 39 = .ok (.iload 6, 2) := by decide +kernel
theorem dX11_mixWorks_41 : decode cX11_mixWorks 41 = .ok (.invokevirtual 69, 3) := by decide +kernel
theorem dX11_mixWorks_44 : decode cX11_mixWorks 44 = .ok (.invokestatic 289, 3) := by decide +kernel
theorem dX11_mixWorks_47 : decode cX11_mixWorks 47 = .ok (.lstore_n 3, 1) := by decide +kernel
theorem dX11_mixWorks_48 : decode cX11_mixWorks 48 = .ok (.iinc 6 1, 3) := by decide +kernel
theorem dX11_mixWorks_51 : decode cX11_mixWorks 51 = .ok (.goto (-28), 3) := by decide +kernel
theorem dX11_mixWorks_54 : decode cX11_mixWorks 54 = .ok (.iinc 5 1, 3) := by decide +kernel
theorem dX11_mixWorks_57 : decode cX11_mixWorks 57 = .ok (.goto (-52), 3) := by decide +kernel
theorem dX11_mixWorks_60 : decode cX11_mixWorks 60 = .ok (.lload_n 3, 1) := by decide +kernel
theorem dX11_mixWorks_61 : decode cX11_mixWorks 61 = .ok (.lreturn, 1) := by decide +kernel
set_option maxRecDepth 20000 in
theorem ggX11_mixRules_X11_mix : GoodIn wsX11_mixRules wsX11_mix := goodIn_r _ [5, 6] (by decide +kernel) (by decide +kernel)
set_option maxRecDepth 20000 in
theorem gX11_mixRules_X11_mix : GoodIn wsX11_mixRules (va_wsS RX11 289 yX11_mix wsX11_mix) := goodIn_app (goodIn_of _ (by decide +kernel)) ggX11_mixRules_X11_mix
theorem dX11_mixRules_0 : decode cX11_mixRules 0 = .ok (.lload_n 1, 1) := by decide +kernel
theorem dX11_mixRules_1 : decode cX11_mixRules 1 = .ok (.lstore_n 3, 1) := by decide +kernel
theorem dX11_mixRules_2 : decode cX11_mixRules 2 = .ok (.iconst 0, 1) := by decide +kernel
theorem dX11_mixRules_3 : decode cX11_mixRules 3 = .ok (.istore 5, 2) := by decide +kernel
theorem dX11_mixRules_5 : decode cX11_mixRules 5 = .ok (.iload 5, 2) := by decide +kernel
theorem dX11_mixRules_7 : decode cX11_mixRules 7 = .ok (.iconst 4, 1) := by decide +kernel
theorem dX11_mixRules_8 : decode cX11_mixRules 8 = .ok (.if_icmp .ge 43, 3) := by decide +kernel
theorem dX11_mixRules_11 : decode cX11_mixRules 11 = .ok (.iconst 0, 1) := by decide +kernel
theorem dX11_mixRules_12 : decode cX11_mixRules 12 = .ok (.istore 6, 2) := by decide +kernel
theorem dX11_mixRules_14 : decode cX11_mixRules 14 = .ok (.iload 6, 2) := by decide +kernel
theorem dX11_mixRules_16 : decode cX11_mixRules 16 = .ok (.bipush 6, 2) := by decide +kernel
theorem dX11_mixRules_18 : decode cX11_mixRules 18 = .ok (.if_icmp .ge 27, 3) := by decide +kernel
theorem dX11_mixRules_21 : decode cX11_mixRules 21 = .ok (.lload_n 3, 1) := by decide +kernel
theorem dX11_mixRules_22 : decode cX11_mixRules 22 = .ok (.aload_n 0, 1) := by decide +kernel
theorem dX11_mixRules_23 : decode cX11_mixRules 23 = .ok (.getfield 10, 3) := by decide +kernel
theorem dX11_mixRules_26 : decode cX11_mixRules 26 = .ok (.getfield 125, 3) := by decide +kernel
theorem dX11_mixRules_29 : decode cX11_mixRules 29 = .ok (.iload 5, 2) := by decide +kernel
theorem dX11_mixRules_31 : decode cX11_mixRules 31 = .ok (.aaload, 1) := by decide +kernel
theorem dX11_mixRules_32 : decode cX11_mixRules 32 = .ok (.iload 6, 2) := by decide +kernel
theorem dX11_mixRules_34 : decode cX11_mixRules 34 = .ok (.iaload, 1) := by decide +kernel
theorem dX11_mixRules_35 : decode cX11_mixRules 35 = .ok (.invokestatic 289, 3) := by decide +kernel
theorem dX11_mixRules_38 : decode cX11_mixRules 38 = .ok (.lstore_n 3, 1) := by decide +kernel
theorem dX11_mixRules_39 : decode cX11_mixRules 39 = .ok (.iinc 6 1, 3) := by decide +kernel
theorem dX11_mixRules_42 : decode cX11_mixRules 42 = .ok (.goto (-28), 3) := by decide +kernel
theorem dX11_mixRules_45 : decode cX11_mixRules 45 = .ok (.iinc 5 1, 3) := by decide +kernel
theorem dX11_mixRules_48 : decode cX11_mixRules 48 = .ok (.goto (-43), 3) := by decide +kernel
theorem dX11_mixRules_51 : decode cX11_mixRules 51 = .ok (.lload_n 3, 1) := by decide +kernel
theorem dX11_mixRules_52 : decode cX11_mixRules 52 = .ok (.lreturn, 1) := by decide +kernel
set_option maxRecDepth 20000 in
theorem ggX11_mixEntrant_X0_tellOfEntrant : GoodIn wsX11_mixEntrant wsX0_tellOfEntrant := goodIn_r _ [6, 7, 8, 9, 10, 11, 12, 13, 14, 15, 16, 17, 18, 19, 20, 21, 22, 23, 24, 25, 26, 27, 28, 29, 30, 31, 32, 33, 34, 35, 36, 37, 38, 39, 40, 41, 42, 43, 5, 44, 45, 46, 47, 48, 49, 50, 51, 52, 53, 54, 55, 56, 57, 58, 59, 60, 61, 62, 63, 64, 65, 66, 67, 68, 69, 70, 71, 72, 73, 74, 75, 76, 77, 78, 79, 80, 81, 82, 83, 84, 85, 86, 87, 88, 89, 90, 91, 92, 93, 94, 95, 96, 97, 98, 99, 100, 101, 102, 103, 104, 105, 106, 107, 108, 109, 110, 111, 112, 113, 114, 115, 116, 124, 125, 126, 127, 128, 129, 130, 131, 132, 133, 134, 135, 136, 137, 138, 139, 140, 141, 142, 143, 144, 145, 146, 147, 148, 149, 150, 151] (by decide +kernel) (by decide +kernel)
set_option maxRecDepth 20000 in
theorem gX11_mixEntrant_X0_tellOfEntrant : GoodIn wsX11_mixEntrant (wsV RX11 232 RX0 yX0_tellOfEntrant wsX0_tellOfEntrant) := goodIn_app (goodIn_of _ (by decide +kernel)) ggX11_mixEntrant_X0_tellOfEntrant
set_option maxRecDepth 20000 in
theorem ggX11_mixEntrant_X11_mix : GoodIn wsX11_mixEntrant wsX11_mix := goodIn_r _ [119, 120] (by decide +kernel) (by decide +kernel)
set_option maxRecDepth 20000 in
theorem gX11_mixEntrant_X11_mix : GoodIn wsX11_mixEntrant (va_wsS RX11 289 yX11_mix wsX11_mix) := goodIn_app (goodIn_of _ (by decide +kernel)) ggX11_mixEntrant_X11_mix
theorem dX11_mixEntrant_0 : decode cX11_mixEntrant 0 = .ok (.lload_n 1, 1) := by decide +kernel
theorem dX11_mixEntrant_1 : decode cX11_mixEntrant 1 = .ok (.lstore 4, 2) := by decide +kernel
theorem dX11_mixEntrant_3 : decode cX11_mixEntrant 3 = .ok (.iconst 0, 1) := by decide +kernel
theorem dX11_mixEntrant_4 : decode cX11_mixEntrant 4 = .ok (.istore 6, 2) := by decide +kernel
theorem dX11_mixEntrant_6 : decode cX11_mixEntrant 6 = .ok (.iload 6, 2) := by decide +kernel
theorem dX11_mixEntrant_8 : decode cX11_mixEntrant 8 = .ok (.bipush 8, 2) := by decide +kernel
theorem dX11_mixEntrant_10 : decode cX11_mixEntrant 10 = .ok (.if_icmp .ge 26, 3) := by decide +kernel
theorem dX11_mixEntrant_13 : decode cX11_mixEntrant 13 = .ok (.lload 4, 2) := by decide +kernel
theorem dX11_mixEntrant_15 : decode cX11_mixEntrant 15 = .ok (.aload_n 0, 1) := by decide +kernel
theorem dX11_mixEntrant_16 : decode cX11_mixEntrant 16 = .ok (.getfield 10, 3) := by decide +kernel
theorem dX11_mixEntrant_19 : decode cX11_mixEntrant 19 = .ok (.iload_n 3, 1) := by decide +kernel
theorem dX11_mixEntrant_20 : decode cX11_mixEntrant 20 = .ok (.iload 6, 2) := by decide +kernel
theorem dX11_mixEntrant_22 : decode cX11_mixEntrant 22 = .ok (.invokevirtual 232, 3) := by decide +kernel
theorem dX11_mixEntrant_25 : decode cX11_mixEntrant 25 = .ok (.invokestatic 289, 3) := by decide +kernel
theorem dX11_mixEntrant_28 : decode cX11_mixEntrant 28 = .ok (.lstore 4, 2) := by decide +kernel
theorem dX11_mixEntrant_30 : decode cX11_mixEntrant 30 = .ok (.iinc 6 1, 3) := by decide +kernel
theorem dX11_mixEntrant_33 : decode cX11_mixEntrant 33 = .ok (.goto (-27), 3) := by decide +kernel
theorem dX11_mixEntrant_36 : decode cX11_mixEntrant 36 = .ok (.lload 4, 2) := by decide +kernel
theorem dX11_mixEntrant_38 : decode cX11_mixEntrant 38 = .ok (.lreturn, 1) := by decide +kernel
set_option maxRecDepth 20000 in
theorem ggX11_mixPrograms_X4_flawOf : GoodIn wsX11_mixPrograms wsX4_flawOf := goodIn_r _ [6, 7, 8, 9, 5, 10, 11, 12, 13, 14, 15, 16, 17, 18, 19, 20, 21, 22, 23, 24, 25, 26, 27, 28, 29, 30, 31, 32, 33, 34, 35, 36, 37, 38, 39, 40, 41, 42, 43, 44, 45, 46, 47, 48, 49, 50, 51, 52, 53, 54, 55, 56, 57, 58, 59, 60, 84, 85, 86, 87, 88] (by decide +kernel) (by decide +kernel)
set_option maxRecDepth 20000 in
theorem gX11_mixPrograms_X4_flawOf : GoodIn wsX11_mixPrograms (wsV RX11 160 RX4 yX4_flawOf wsX4_flawOf) := goodIn_app (goodIn_of _ (by decide +kernel)) ggX11_mixPrograms_X4_flawOf
set_option maxRecDepth 20000 in
theorem ggX11_mixPrograms_X11_mix : GoodIn wsX11_mixPrograms wsX11_mix := goodIn_r _ [64, 65] (by decide +kernel) (by decide +kernel)
set_option maxRecDepth 20000 in
theorem gX11_mixPrograms_X11_mix : GoodIn wsX11_mixPrograms (va_wsS RX11 289 yX11_mix wsX11_mix) := goodIn_app (goodIn_of _ (by decide +kernel)) ggX11_mixPrograms_X11_mix
set_option maxRecDepth 20000 in
theorem ggX11_mixPrograms_X4_workAt : GoodIn wsX11_mixPrograms wsX4_workAt := goodIn_r _ [14, 15, 84] (by decide +kernel) (by decide +kernel)
set_option maxRecDepth 20000 in
theorem gX11_mixPrograms_X4_workAt : GoodIn wsX11_mixPrograms (wsV RX11 157 RX4 yX4_workAt wsX4_workAt) := goodIn_app (goodIn_of _ (by decide +kernel)) ggX11_mixPrograms_X4_workAt
theorem dX11_mixPrograms_0 : decode cX11_mixPrograms 0 = .ok (.lload_n 1, 1) := by decide +kernel
theorem dX11_mixPrograms_1 : decode cX11_mixPrograms 1 = .ok (.lstore 4, 2) := by decide +kernel
theorem dX11_mixPrograms_3 : decode cX11_mixPrograms 3 = .ok (.iconst 0, 1) := by decide +kernel
theorem dX11_mixPrograms_4 : decode cX11_mixPrograms 4 = .ok (.istore 6, 2) := by decide +kernel
theorem dX11_mixPrograms_6 : decode cX11_mixPrograms 6 = .ok (.iload 6, 2) := by decide +kernel
theorem dX11_mixPrograms_8 : decode cX11_mixPrograms 8 = .ok (.iconst 4, 1) := by decide +kernel
theorem dX11_mixPrograms_9 : decode cX11_mixPrograms 9 = .ok (.if_icmp .ge 99, 3) := by decide +kernel
theorem dX11_mixPrograms_12 : decode cX11_mixPrograms 12 = .ok (.lload 4, 2) := by decide +kernel
theorem dX11_mixPrograms_14 : decode cX11_mixPrograms 14 = .ok (.aload_n 0, 1) := by decide +kernel
theorem dX11_mixPrograms_15 : decode cX11_mixPrograms 15 = .ok (.getfield 10, 3) := by decide +kernel
theorem dX11_mixPrograms_18 : decode cX11_mixPrograms 18 = .ok (.getfield 135, 3) := by decide +kernel
theorem dX11_mixPrograms_21 : decode cX11_mixPrograms 21 = .ok (.iload_n 3, 1) := by decide +kernel
theorem dX11_mixPrograms_22 : decode cX11_mixPrograms 22 = .ok (.iload 6, 2) := by decide +kernel
theorem dX11_mixPrograms_24 : decode cX11_mixPrograms 24 = .ok (.aload_n 0, 1) := by decide +kernel
theorem dX11_mixPrograms_25 : decode cX11_mixPrograms 25 = .ok (.getfield 10, 3) := by decide +kernel
theorem dX11_mixPrograms_28 : decode cX11_mixPrograms 28 = .ok (.getfield 125, 3) := by decide +kernel
theorem dX11_mixPrograms_31 : decode cX11_mixPrograms 31 = .ok (.aload_n 0, 1) := by decide +kernel
theorem dX11_mixPrograms_32 : decode cX11_mixPrograms 32 = .ok (.getfield 10, 3) := by decide +kernel
theorem dX11_mixPrograms_35 : decode cX11_mixPrograms 35 = .ok (.getfield 42, 3) := by decide +kernel
theorem dX11_mixPrograms_38 : decode cX11_mixPrograms 38 = .ok (.invokevirtual 160, 3) := by decide +kernel
theorem dX11_mixPrograms_41 : decode cX11_mixPrograms 41 = .ok (.invokestatic 289, 3) := by decide +kernel
theorem dX11_mixPrograms_44 : decode cX11_mixPrograms 44 = .ok (.lstore 4, 2) := by decide +kernel
theorem dX11_mixPrograms_46 : decode cX11_mixPrograms 46 = .ok (.lload 4, 2) := by decide +kernel
theorem dX11_mixPrograms_48 : decode cX11_mixPrograms 48 = .ok (.aload_n 0, 1) := by decide +kernel
theorem dX11_mixPrograms_49 : decode cX11_mixPrograms 49 = .ok (.getfield 10, 3) := by decide +kernel
theorem dX11_mixPrograms_52 : decode cX11_mixPrograms 52 = .ok (.getfield 249, 3) := by decide +kernel
theorem dX11_mixPrograms_55 : decode cX11_mixPrograms 55 = .ok (.iload 6, 2) := by decide +kernel
theorem dX11_mixPrograms_57 : decode cX11_mixPrograms 57 = .ok (.aaload, 1) := by decide +kernel
theorem dX11_mixPrograms_58 : decode cX11_mixPrograms 58 = .ok (.iload_n 3, 1) := by decide +kernel
theorem dX11_mixPrograms_59 : decode cX11_mixPrograms 59 = .ok (.iaload, 1) := by decide +kernel
theorem dX11_mixPrograms_60 : decode cX11_mixPrograms 60 = .ok (.invokestatic 289, 3) := by decide +kernel
theorem dX11_mixPrograms_63 : decode cX11_mixPrograms 63 = .ok (.lstore 4, 2) := by decide +kernel
theorem dX11_mixPrograms_65 : decode cX11_mixPrograms 65 = .ok (.iconst 0, 1) := by decide +kernel
theorem dX11_mixPrograms_66 : decode cX11_mixPrograms 66 = .ok (.istore 7, 2) := by decide +kernel
theorem dX11_mixPrograms_68 : decode cX11_mixPrograms 68 = .ok (.iload 7, 2) := by decide +kernel
theorem dX11_mixPrograms_70 : decode cX11_mixPrograms 70 = .ok (.iconst 4, 1) := by decide +kernel
theorem dX11_mixPrograms_71 : decode cX11_mixPrograms 71 = .ok (.if_icmp .ge 31, 3) := by decide +kernel
theorem dX11_mixPrograms_74 : decode cX11_mixPrograms 74 = .ok (.lload 4, 2) := by decide +kernel
theorem dX11_mixPrograms_76 : decode cX11_mixPrograms 76 = .ok (.aload_n 0, 1) := by decide +kernel
theorem dX11_mixPrograms_77 : decode cX11_mixPrograms 77 = .ok (.getfield 10, 3) := by decide +kernel
theorem dX11_mixPrograms_80 : decode cX11_mixPrograms 80 = .ok (.getfield 135, 3) := by decide +kernel
theorem dX11_mixPrograms_83 : decode cX11_mixPrograms 83 = .ok (.iload_n 3, 1) := by decide +kernel
theorem dX11_mixPrograms_84 : decode cX11_mixPrograms 84 = .ok (.iload 6, 2) := by decide +kernel
theorem dX11_mixPrograms_86 : decode cX11_mixPrograms 86 = .ok (.iload 7, 2) := by decide +kernel
theorem dX11_mixPrograms_88 : decode cX11_mixPrograms 88 = .ok (.invokevirtual 157, 3) := by decide +kernel
theorem dX11_mixPrograms_91 : decode cX11_mixPrograms 91 = .ok (.invokestatic 289, 3) := by decide +kernel
theorem dX11_mixPrograms_94 : decode cX11_mixPrograms 94 = .ok (.lstore 4, 2) := by decide +kernel
theorem dX11_mixPrograms_96 : decode cX11_mixPrograms 96 = .ok (.iinc 7 1, 3) := by decide +kernel
theorem dX11_mixPrograms_99 : decode cX11_mixPrograms 99 = .ok (.goto (-31), 3) := by decide +kernel
theorem dX11_mixPrograms_102 : decode cX11_mixPrograms 102 = .ok (.iinc 6 1, 3) := by decide +kernel
theorem dX11_mixPrograms_105 : decode cX11_mixPrograms 105 = .ok (.goto (-99), 3) := by decide +kernel
theorem dX11_mixPrograms_108 : decode cX11_mixPrograms 108 = .ok (.lload 4, 2) := by decide +kernel
theorem dX11_mixPrograms_110 : decode cX11_mixPrograms 110 = .ok (.lreturn, 1) := by decide +kernel
set_option maxRecDepth 20000 in
theorem ggX11_mixSheets_X3_isBarred : GoodIn wsX11_mixSheets wsX3_isBarred := goodIn_r _ [6, 7, 36, 37] (by decide +kernel) (by decide +kernel)
set_option maxRecDepth 20000 in
theorem gX11_mixSheets_X3_isBarred : GoodIn wsX11_mixSheets (wsV RX11 91 RX3 yX3_isBarred wsX3_isBarred) := goodIn_app (goodIn_of _ (by decide +kernel)) ggX11_mixSheets_X3_isBarred
set_option maxRecDepth 20000 in
theorem ggX11_mixSheets_X11_mix : GoodIn wsX11_mixSheets wsX11_mix := goodIn_r _ [11, 12] (by decide +kernel) (by decide +kernel)
set_option maxRecDepth 20000 in
theorem gX11_mixSheets_X11_mix : GoodIn wsX11_mixSheets (va_wsS RX11 289 yX11_mix wsX11_mix) := goodIn_app (goodIn_of _ (by decide +kernel)) ggX11_mixSheets_X11_mix
set_option maxRecDepth 20000 in
theorem ggX11_mixSheets_X6_at : GoodIn wsX11_mixSheets wsX6_at := goodIn_r _ [17, 18, 42] (by decide +kernel) (by decide +kernel)
set_option maxRecDepth 20000 in
theorem gX11_mixSheets_X6_at : GoodIn wsX11_mixSheets (wsV RX11 245 RX6 yX6_at wsX6_at) := goodIn_app (goodIn_of _ (by decide +kernel)) ggX11_mixSheets_X6_at
theorem dX11_mixSheets_0 : decode cX11_mixSheets 0 = .ok (.lload_n 1, 1) := by decide +kernel
theorem dX11_mixSheets_1 : decode cX11_mixSheets 1 = .ok (.lstore 4, 2) := by decide +kernel
theorem dX11_mixSheets_3 : decode cX11_mixSheets 3 = .ok (.iconst 0, 1) := by decide +kernel
theorem dX11_mixSheets_4 : decode cX11_mixSheets 4 = .ok (.istore 6, 2) := by decide +kernel
theorem dX11_mixSheets_6 : decode cX11_mixSheets 6 = .ok (.iload 6, 2) := by decide +kernel
theorem dX11_mixSheets_8 : decode cX11_mixSheets 8 = .ok (.aload_n 0, 1) := by decide +kernel
theorem dX11_mixSheets_9 : decode cX11_mixSheets 9 = .ok (.getfield 10, 3) := by decide +kernel
theorem dX11_mixSheets_12 : decode cX11_mixSheets 12 = .ok (.getfield 87, 3) := by decide +kernel
theorem dX11_mixSheets_15 : decode cX11_mixSheets 15 = .ok (.getfield 271, 3) := by decide +kernel
theorem dX11_mixSheets_18 : decode cX11_mixSheets 18 = .ok (.if_icmp .ge 80, 3) := by decide +kernel
theorem dX11_mixSheets_21 : decode cX11_mixSheets 21 = .ok (.lload 4, 2) := by decide +kernel
theorem dX11_mixSheets_23 : decode cX11_mixSheets 23 = .ok (.aload_n 0, 1) := by decide +kernel
theorem dX11_mixSheets_24 : decode cX11_mixSheets 24 = .ok (.getfield 10, 3) := by decide +kernel
theorem dX11_mixSheets_27 : decode cX11_mixSheets 27 = .ok (.getfield 87, 3) := by decide +kernel
theorem dX11_mixSheets_30 : decode cX11_mixSheets 30 = .ok (.iload 6, 2) := by decide +kernel
theorem dX11_mixSheets_32 : decode cX11_mixSheets 32 = .ok (.iload_n 3, 1) := by decide +kernel
theorem dX11_mixSheets_33 : decode cX11_mixSheets 33 = .ok (.invokevirtual 91, 3) := by decide +kernel
theorem dX11_mixSheets_36 : decode cX11_mixSheets 36 = .ok (.ifCond .eq 7, 3) := by decide +kernel
theorem dX11_mixSheets_39 : decode cX11_mixSheets 39 = .ok (.iconst 1, 1) := by decide +kernel
theorem dX11_mixSheets_40 : decode cX11_mixSheets 40 = .ok (.goto 4, 3) := by decide +kernel
theorem dX11_mixSheets_43 : decode cX11_mixSheets 43 = .ok (.iconst 0, 1) := by decide +kernel
theorem dX11_mixSheets_44 : decode cX11_mixSheets 44 = .ok (.invokestatic 289, 3) := by decide +kernel
theorem dX11_mixSheets_47 : decode cX11_mixSheets 47 = .ok (.lstore 4, 2) := by decide +kernel
theorem dX11_mixSheets_49 : decode cX11_mixSheets 49 = .ok (.lload 4, 2) := by decide +kernel
theorem dX11_mixSheets_51 : decode cX11_mixSheets 51 = .ok (.aload_n 0, 1) := by decide +kernel
theorem dX11_mixSheets_52 : decode cX11_mixSheets 52 = .ok (.getfield 10, 3) := by decide +kernel
theorem dX11_mixSheets_55 : decode cX11_mixSheets 55 = .ok (.getfield 248, 3) := by decide +kernel
theorem dX11_mixSheets_58 : decode cX11_mixSheets 58 = .ok (.iload 6, 2) := by decide +kernel
theorem dX11_mixSheets_60 : decode cX11_mixSheets 60 = .ok (.iload_n 3, 1) := by decide +kernel
theorem dX11_mixSheets_61 : decode cX11_mixSheets 61 = .ok (.invokevirtual 245, 3) := by decide +kernel
theorem dX11_mixSheets_64 : decode cX11_mixSheets 64 = .ok (.invokestatic 289, 3) := by decide +kernel
theorem dX11_mixSheets_67 : decode cX11_mixSheets 67 = .ok (.lstore 4, 2) := by decide +kernel
theorem dX11_mixSheets_69 : decode cX11_mixSheets 69 = .ok (.lload 4, 2) := by decide +kernel
theorem dX11_mixSheets_71 : decode cX11_mixSheets 71 = .ok (.aload_n 0, 1) := by decide +kernel
theorem dX11_mixSheets_72 : decode cX11_mixSheets 72 = .ok (.getfield 10, 3) := by decide +kernel
theorem dX11_mixSheets_75 : decode cX11_mixSheets 75 = .ok (.getfield 235, 3) := by decide +kernel
theorem dX11_mixSheets_78 : decode cX11_mixSheets 78 = .ok (.getfield 239, 3) := by decide +kernel
theorem dX11_mixSheets_81 : decode cX11_mixSheets 81 = .ok (.iload 6, 2) := by decide +kernel
theorem dX11_mixSheets_83 : decode cX11_mixSheets 83 = .ok (.iload_n 3, 1) := by decide +kernel
theorem dX11_mixSheets_84 : decode cX11_mixSheets 84 = .ok (.invokevirtual 245, 3) := by decide +kernel
theorem dX11_mixSheets_87 : decode cX11_mixSheets 87 = .ok (.invokestatic 289, 3) := by decide +kernel
theorem dX11_mixSheets_90 : decode cX11_mixSheets 90 = .ok (.lstore 4, 2) := by decide +kernel
theorem dX11_mixSheets_92 : decode cX11_mixSheets 92 = .ok (.iinc 6 1, 3) := by decide +kernel
theorem dX11_mixSheets_95 : decode cX11_mixSheets 95 = .ok (.goto (-89), 3) := by decide +kernel
theorem dX11_mixSheets_98 : decode cX11_mixSheets 98 = .ok (.lload 4, 2) := by decide +kernel
theorem dX11_mixSheets_100 : decode cX11_mixSheets 100 = .ok (.lreturn, 1) := by decide +kernel
theorem dX11_isBetween_0 : decode cX11_isBetween 0 = .ok (.iload_n 0, 1) := by decide +kernel
theorem dX11_isBetween_1 : decode cX11_isBetween 1 = .ok (.iload_n 1, 1) := by decide +kernel
theorem dX11_isBetween_2 : decode cX11_isBetween 2 = .ok (.if_icmp .lt 12, 3) := by decide +kernel
theorem dX11_isBetween_5 : decode cX11_isBetween 5 = .ok (.iload_n 0, 1) := by decide +kernel
theorem dX11_isBetween_6 : decode cX11_isBetween 6 = .ok (.iload_n 2, 1) := by decide +kernel
theorem dX11_isBetween_7 : decode cX11_isBetween 7 = .ok (.if_icmp .gt 7, 3) := by decide +kernel
theorem dX11_isBetween_10 : decode cX11_isBetween 10 = .ok (.iconst 1, 1) := by decide +kernel
theorem dX11_isBetween_11 : decode cX11_isBetween 11 = .ok (.goto 4, 3) := by decide +kernel
theorem dX11_isBetween_14 : decode cX11_isBetween 14 = .ok (.iconst 0, 1) := by decide +kernel
theorem dX11_isBetween_15 : decode cX11_isBetween 15 = .ok (.ireturn, 1) := by decide +kernel
theorem dX11_requireIndex_0 : decode cX11_requireIndex 0 = .ok (.iload_n 0, 1) := by decide +kernel
theorem dX11_requireIndex_1 : decode cX11_requireIndex 1 = .ok (.ifCond .ne 11, 3) := by decide +kernel
theorem dX11_requireIndex_4 : decode cX11_requireIndex 4 = .ok (.new 314, 3) := by decide +kernel
theorem dX11_requireIndex_7 : decode cX11_requireIndex 7 = .ok (.dup, 1) := by decide +kernel
theorem dX11_requireIndex_8 : decode cX11_requireIndex 8 = .ok (.invokespecial 316, 3) := by decide +kernel
theorem dX11_requireIndex_11 : decode cX11_requireIndex 11 = .ok (.athrow, 1) := by decide +kernel
theorem dX11_requireIndex_12 : decode cX11_requireIndex 12 = .ok (.return_, 1) := by decide +kernel
theorem dX11_requireArgument_0 : decode cX11_requireArgument 0 = .ok (.iload_n 0, 1) := by decide +kernel
theorem dX11_requireArgument_1 : decode cX11_requireArgument 1 = .ok (.ifCond .ne 11, 3) := by decide +kernel
theorem dX11_requireArgument_4 : decode cX11_requireArgument 4 = .ok (.new 317, 3) := by decide +kernel
theorem dX11_requireArgument_7 : decode cX11_requireArgument 7 = .ok (.dup, 1) := by decide +kernel
theorem dX11_requireArgument_8 : decode cX11_requireArgument 8 = .ok (.invokespecial 319, 3) := by decide +kernel
theorem dX11_requireArgument_11 : decode cX11_requireArgument 11 = .ok (.athrow, 1) := by decide +kernel
theorem dX11_requireArgument_12 : decode cX11_requireArgument 12 = .ok (.return_, 1) := by decide +kernel
theorem dX11_requireState_0 : decode cX11_requireState 0 = .ok (.iload_n 0, 1) := by decide +kernel
theorem dX11_requireState_1 : decode cX11_requireState 1 = .ok (.ifCond .ne 11, 3) := by decide +kernel
theorem dX11_requireState_4 : decode cX11_requireState 4 = .ok (.new 320, 3) := by decide +kernel
theorem dX11_requireState_7 : decode cX11_requireState 7 = .ok (.dup, 1) := by decide +kernel
theorem dX11_requireState_8 : decode cX11_requireState 8 = .ok (.invokespecial 322, 3) := by decide +kernel
theorem dX11_requireState_11 : decode cX11_requireState 11 = .ok (.athrow, 1) := by decide +kernel
theorem dX11_requireState_12 : decode cX11_requireState 12 = .ok (.return_, 1) := by decide +kernel
set_option maxRecDepth 20000 in
theorem ggX11_requireRound_X11_isBetween : GoodIn wsX11_requireRound wsX11_isBetween := goodIn_r _ [4] (by decide +kernel) (by decide +kernel)
set_option maxRecDepth 20000 in
theorem gX11_requireRound_X11_isBetween : GoodIn wsX11_requireRound (va_wsS RX11 30 yX11_isBetween wsX11_isBetween) := goodIn_app (goodIn_of _ (by decide +kernel)) ggX11_requireRound_X11_isBetween
set_option maxRecDepth 20000 in
theorem ggX11_requireRound_X11_requireIndex : GoodIn wsX11_requireRound wsX11_requireIndex := goodIn_ca (goodIn_r _ [7, 8, 9] (by decide +kernel) (by decide +kernel)) (goodIn_sub (fun _ h => List.mem_cons_of_mem _ (List.mem_append_right _ h)) (by decide +kernel))
set_option maxRecDepth 20000 in
theorem gX11_requireRound_X11_requireIndex : GoodIn wsX11_requireRound (va_wsS RX11 66 yX11_requireIndex wsX11_requireIndex) := goodIn_app (goodIn_of _ (by decide +kernel)) ggX11_requireRound_X11_requireIndex
theorem dX11_requireRound_0 : decode cX11_requireRound 0 = .ok (.iload_n 0, 1) := by decide +kernel
theorem dX11_requireRound_1 : decode cX11_requireRound 1 = .ok (.iconst 0, 1) := by decide +kernel
theorem dX11_requireRound_2 : decode cX11_requireRound 2 = .ok (.iconst 3, 1) := by decide +kernel
theorem dX11_requireRound_3 : decode cX11_requireRound 3 = .ok (.invokestatic 30, 3) := by decide +kernel
theorem dX11_requireRound_6 : decode cX11_requireRound 6 = .ok (.invokestatic 66, 3) := by decide +kernel
theorem dX11_requireRound_9 : decode cX11_requireRound 9 = .ok (.return_, 1) := by decide +kernel
set_option maxRecDepth 20000 in
theorem ggX11_requireEntrant_X2_has : GoodIn wsX11_requireEntrant wsX2_has := goodIn_r _ [6, 7, 31, 32] (by decide +kernel) (by decide +kernel)
set_option maxRecDepth 20000 in
theorem gX11_requireEntrant_X2_has : GoodIn wsX11_requireEntrant (wsV RX11 323 RX2 yX2_has wsX2_has) := goodIn_app (goodIn_of _ (by decide +kernel)) ggX11_requireEntrant_X2_has
set_option maxRecDepth 20000 in
theorem ggX11_requireEntrant_X11_requireIndex : GoodIn wsX11_requireEntrant wsX11_requireIndex := goodIn_ca (goodIn_r _ [11, 12, 13] (by decide +kernel) (by decide +kernel)) (goodIn_sub (fun _ h => List.mem_cons_of_mem _ (List.mem_append_right _ h)) (by decide +kernel))
set_option maxRecDepth 20000 in
theorem gX11_requireEntrant_X11_requireIndex : GoodIn wsX11_requireEntrant (va_wsS RX11 66 yX11_requireIndex wsX11_requireIndex) := goodIn_app (goodIn_of _ (by decide +kernel)) ggX11_requireEntrant_X11_requireIndex
theorem dX11_requireEntrant_0 : decode cX11_requireEntrant 0 = .ok (.aload_n 0, 1) := by decide +kernel
theorem dX11_requireEntrant_1 : decode cX11_requireEntrant 1 = .ok (.getfield 10, 3) := by decide +kernel
theorem dX11_requireEntrant_4 : decode cX11_requireEntrant 4 = .ok (.getfield 73, 3) := by decide +kernel
theorem dX11_requireEntrant_7 : decode cX11_requireEntrant 7 = .ok (.iload_n 1, 1) := by decide +kernel
theorem dX11_requireEntrant_8 : decode cX11_requireEntrant 8 = .ok (.invokevirtual 323, 3) := by decide +kernel
theorem dX11_requireEntrant_11 : decode cX11_requireEntrant 11 = .ok (.invokestatic 66, 3) := by decide +kernel
theorem dX11_requireEntrant_14 : decode cX11_requireEntrant 14 = .ok (.return_, 1) := by decide +kernel
set_option maxRecDepth 20000 in
theorem ggX11_requireEntrantAndRound_X11_requireEntrant : GoodIn wsX11_requireEntrantAndRound wsX11_requireEntrant := goodIn_ca (goodIn_r _ [5, 6, 7, 8, 9, 10, 11, 12, 13, 14, 4, 15, 16, 17, 24, 25, 26, 27, 28, 29, 30, 31, 32, 33, 34, 35, 36, 37, 38, 39, 40, 41, 42] (by decide +kernel) (by decide +kernel)) (goodIn_sub (fun _ h => List.mem_cons_of_mem _ (List.mem_append_right _ h)) (by decide +kernel))
set_option maxRecDepth 20000 in
theorem gX11_requireEntrantAndRound_X11_requireEntrant : GoodIn wsX11_requireEntrantAndRound (wsV RX11 217 RX11 yX11_requireEntrant wsX11_requireEntrant) := goodIn_app (goodIn_of _ (by decide +kernel)) ggX11_requireEntrantAndRound_X11_requireEntrant
set_option maxRecDepth 20000 in
theorem ggX11_requireEntrantAndRound_X11_requireRound : GoodIn wsX11_requireEntrantAndRound wsX11_requireRound := goodIn_ca (goodIn_r _ [20, 21, 22, 4, 23, 13, 14, 15, 16, 17] (by decide +kernel) (by decide +kernel)) (goodIn_sub (fun _ h => List.mem_cons_of_mem _ (List.mem_append_right _ h)) (by decide +kernel))
set_option maxRecDepth 20000 in
theorem gX11_requireEntrantAndRound_X11_requireRound : GoodIn wsX11_requireEntrantAndRound (va_wsS RX11 115 yX11_requireRound wsX11_requireRound) := goodIn_app (goodIn_of _ (by decide +kernel)) ggX11_requireEntrantAndRound_X11_requireRound
theorem dX11_requireEntrantAndRound_0 : decode cX11_requireEntrantAndRound 0 = .ok (.aload_n 0, 1) := by decide +kernel
theorem dX11_requireEntrantAndRound_1 : decode cX11_requireEntrantAndRound 1 = .ok (.iload_n 1, 1) := by decide +kernel
theorem dX11_requireEntrantAndRound_2 : decode cX11_requireEntrantAndRound 2 = .ok (.invokevirtual 217, 3) := by decide +kernel
theorem dX11_requireEntrantAndRound_5 : decode cX11_requireEntrantAndRound 5 = .ok (.iload_n 2, 1) := by decide +kernel
theorem dX11_requireEntrantAndRound_6 : decode cX11_requireEntrantAndRound 6 = .ok (.invokestatic 115, 3) := by decide +kernel
theorem dX11_requireEntrantAndRound_9 : decode cX11_requireEntrantAndRound 9 = .ok (.return_, 1) := by decide +kernel
set_option maxRecDepth 20000 in
theorem ggX11_requireJurorAndEntrant_X3_has : GoodIn wsX11_requireJurorAndEntrant wsX3_has := goodIn_r _ [6, 7, 41, 42] (by decide +kernel) (by decide +kernel)
set_option maxRecDepth 20000 in
theorem gX11_requireJurorAndEntrant_X3_has : GoodIn wsX11_requireJurorAndEntrant (wsV RX11 324 RX3 yX3_has wsX3_has) := goodIn_app (goodIn_of _ (by decide +kernel)) ggX11_requireJurorAndEntrant_X3_has
set_option maxRecDepth 20000 in
theorem ggX11_requireJurorAndEntrant_X11_requireIndex : GoodIn wsX11_requireJurorAndEntrant wsX11_requireIndex := goodIn_ca (goodIn_r _ [11, 12, 13] (by decide +kernel) (by decide +kernel)) (goodIn_sub (fun _ h => List.mem_cons_of_mem _ (List.mem_append_right _ h)) (by decide +kernel))
set_option maxRecDepth 20000 in
theorem gX11_requireJurorAndEntrant_X11_requireIndex : GoodIn wsX11_requireJurorAndEntrant (va_wsS RX11 66 yX11_requireIndex wsX11_requireIndex) := goodIn_app (goodIn_of _ (by decide +kernel)) ggX11_requireJurorAndEntrant_X11_requireIndex
set_option maxRecDepth 20000 in
theorem ggX11_requireJurorAndEntrant_X11_requireEntrant : GoodIn wsX11_requireJurorAndEntrant wsX11_requireEntrant := goodIn_ca (goodIn_r _ [17, 1, 18, 19, 20, 21, 22, 23, 8, 9, 10, 11, 12, 13, 24, 25, 26, 27, 28, 29, 30, 31, 32, 33, 34, 35, 36, 37, 38, 39, 40, 43, 44] (by decide +kernel) (by decide +kernel)) (goodIn_sub (fun _ h => List.mem_cons_of_mem _ (List.mem_append_right _ h)) (by decide +kernel))
set_option maxRecDepth 20000 in
theorem gX11_requireJurorAndEntrant_X11_requireEntrant : GoodIn wsX11_requireJurorAndEntrant (wsV RX11 217 RX11 yX11_requireEntrant wsX11_requireEntrant) := goodIn_app (goodIn_of _ (by decide +kernel)) ggX11_requireJurorAndEntrant_X11_requireEntrant
theorem dX11_requireJurorAndEntrant_0 : decode cX11_requireJurorAndEntrant 0 = .ok (.aload_n 0, 1) := by decide +kernel
theorem dX11_requireJurorAndEntrant_1 : decode cX11_requireJurorAndEntrant 1 = .ok (.getfield 10, 3) := by decide +kernel
theorem dX11_requireJurorAndEntrant_4 : decode cX11_requireJurorAndEntrant 4 = .ok (.getfield 87, 3) := by decide +kernel
theorem dX11_requireJurorAndEntrant_7 : decode cX11_requireJurorAndEntrant 7 = .ok (.iload_n 1, 1) := by decide +kernel
theorem dX11_requireJurorAndEntrant_8 : decode cX11_requireJurorAndEntrant 8 = .ok (.invokevirtual 324, 3) := by decide +kernel
theorem dX11_requireJurorAndEntrant_11 : decode cX11_requireJurorAndEntrant 11 = .ok (.invokestatic 66, 3) := by decide +kernel
theorem dX11_requireJurorAndEntrant_14 : decode cX11_requireJurorAndEntrant 14 = .ok (.aload_n 0, 1) := by decide +kernel
theorem dX11_requireJurorAndEntrant_15 : decode cX11_requireJurorAndEntrant 15 = .ok (.iload_n 2, 1) := by decide +kernel
theorem dX11_requireJurorAndEntrant_16 : decode cX11_requireJurorAndEntrant 16 = .ok (.invokevirtual 217, 3) := by decide +kernel
theorem dX11_requireJurorAndEntrant_19 : decode cX11_requireJurorAndEntrant 19 = .ok (.return_, 1) := by decide +kernel
theorem dX11_copyRows_0 : decode cX11_copyRows 0 = .ok (.iconst 0, 1) := by decide +kernel
theorem dX11_copyRows_1 : decode cX11_copyRows 1 = .ok (.istore_n 2, 1) := by decide +kernel
theorem dX11_copyRows_2 : decode cX11_copyRows 2 = .ok (.iload_n 2, 1) := by decide +kernel
theorem dX11_copyRows_3 : decode cX11_copyRows 3 = .ok (.aload_n 0, 1) := by decide +kernel
theorem dX11_copyRows_4 : decode cX11_copyRows 4 = .ok (.arraylength, 1) := by decide +kernel
theorem dX11_copyRows_5 : decode cX11_copyRows 5 = .ok (.if_icmp .ge 37, 3) := by decide +kernel
theorem dX11_copyRows_8 : decode cX11_copyRows 8 = .ok (.iload_n 2, 1) := by decide +kernel
theorem dX11_copyRows_9 : decode cX11_copyRows 9 = .ok (.aload_n 1, 1) := by decide +kernel
theorem dX11_copyRows_10 : decode cX11_copyRows 10 = .ok (.arraylength, 1) := by decide +kernel
theorem dX11_copyRows_11 : decode cX11_copyRows 11 = .ok (.if_icmp .ge 31, 3) := by decide +kernel
theorem dX11_copyRows_14 : decode cX11_copyRows 14 = .ok (.aload_n 0, 1) := by decide +kernel
theorem dX11_copyRows_15 : decode cX11_copyRows 15 = .ok (.iload_n 2, 1) := by decide +kernel
theorem dX11_copyRows_16 : decode cX11_copyRows 16 = .ok (.aaload, 1) := by decide +kernel
theorem dX11_copyRows_17 : decode cX11_copyRows 17 = .ok (.iconst 0, 1) := by decide +kernel
theorem dX11_copyRows_18 : decode cX11_copyRows 18 = .ok (.aload_n 1, 1) := by decide +kernel
theorem dX11_copyRows_19 : decode cX11_copyRows 19 = .ok (.iload_n 2, 1) := by decide +kernel
theorem dX11_copyRows_20 : decode cX11_copyRows 20 = .ok (.aaload, 1) := by decide +kernel
theorem dX11_copyRows_21 : decode cX11_copyRows 21 = .ok (.iconst 0, 1) := by decide +kernel
theorem dX11_copyRows_22 : decode cX11_copyRows 22 = .ok (.aload_n 0, 1) := by decide +kernel
theorem dX11_copyRows_23 : decode cX11_copyRows 23 = .ok (.iload_n 2, 1) := by decide +kernel
theorem dX11_copyRows_24 : decode cX11_copyRows 24 = .ok (.aaload, 1) := by decide +kernel
theorem dX11_copyRows_25 : decode cX11_copyRows 25 = .ok (.arraylength, 1) := by decide +kernel
theorem dX11_copyRows_26 : decode cX11_copyRows 26 = .ok (.aload_n 1, 1) := by decide +kernel
theorem dX11_copyRows_27 : decode cX11_copyRows 27 = .ok (.iload_n 2, 1) := by decide +kernel
theorem dX11_copyRows_28 : decode cX11_copyRows 28 = .ok (.aaload, 1) := by decide +kernel
theorem dX11_copyRows_29 : decode cX11_copyRows 29 = .ok (.arraylength, 1) := by decide +kernel
theorem dX11_copyRows_30 : decode cX11_copyRows 30 = .ok (.invokestatic 325, 3) := by decide +kernel
theorem dX11_copyRows_33 : decode cX11_copyRows 33 = .ok (.invokestatic 330, 3) := by decide +kernel
theorem dX11_copyRows_36 : decode cX11_copyRows 36 = .ok (.iinc 2 1, 3) := by decide +kernel
theorem dX11_copyRows_39 : decode cX11_copyRows 39 = .ok (.goto (-37), 3) := by decide +kernel
theorem dX11_copyRows_42 : decode cX11_copyRows 42 = .ok (.return_, 1) := by decide +kernel
theorem dX11_copyRow_0 : decode cX11_copyRow 0 = .ok (.aload_n 0, 1) := by decide +kernel
theorem dX11_copyRow_1 : decode cX11_copyRow 1 = .ok (.iconst 0, 1) := by decide +kernel
theorem dX11_copyRow_2 : decode cX11_copyRow 2 = .ok (.aload_n 1, 1) := by decide +kernel
theorem dX11_copyRow_3 : decode cX11_copyRow 3 = .ok (.iconst 0, 1) := by decide +kernel
theorem dX11_copyRow_4 : decode cX11_copyRow 4 = .ok (.aload_n 0, 1) := by decide +kernel
theorem dX11_copyRow_5 : decode cX11_copyRow 5 = .ok (.arraylength, 1) := by decide +kernel
theorem dX11_copyRow_6 : decode cX11_copyRow 6 = .ok (.aload_n 1, 1) := by decide +kernel
theorem dX11_copyRow_7 : decode cX11_copyRow 7 = .ok (.arraylength, 1) := by decide +kernel
theorem dX11_copyRow_8 : decode cX11_copyRow 8 = .ok (.invokestatic 325, 3) := by decide +kernel
theorem dX11_copyRow_11 : decode cX11_copyRow 11 = .ok (.invokestatic 330, 3) := by decide +kernel
theorem dX11_copyRow_14 : decode cX11_copyRow 14 = .ok (.return_, 1) := by decide +kernel
set_option maxRecDepth 20000 in
theorem ggX12_init_X12_clearMarks : GoodIn wsX12_init wsX12_clearMarks := goodIn_r _ [15, 5, 16, 17, 18, 14, 19, 20, 21, 22, 23, 24, 25, 26, 27, 28, 29, 30, 31] (by decide +kernel) (by decide +kernel)
set_option maxRecDepth 20000 in
theorem gX12_init_X12_clearMarks : GoodIn wsX12_init (wsV RX12 28 RX12 yX12_clearMarks wsX12_clearMarks) := goodIn_app (goodIn_of _ (by decide +kernel)) ggX12_init_X12_clearMarks
theorem dX12_init_0 : decode cX12_init 0 = .ok (.aload_n 0, 1) := by decide +kernel
theorem dX12_init_1 : decode cX12_init 1 = .ok (.invokespecial 1, 3) := by decide +kernel
theorem dX12_init_4 : decode cX12_init 4 = .ok (.aload_n 0, 1) := by decide +kernel
theorem dX12_init_5 : decode cX12_init 5 = .ok (.sipush 714, 3) := by decide +kernel
theorem dX12_init_8 : decode cX12_init 8 = .ok (.newarray .int, 2) := by decide +kernel
theorem dX12_init_10 : decode cX12_init 10 = .ok (.putfield 7, 3) := by decide +kernel
theorem dX12_init_13 : decode cX12_init 13 = .ok (.aload_n 0, 1) := by decide +kernel
theorem dX12_init_14 : decode cX12_init 14 = .ok (.sipush 2856, 3) := by decide +kernel
theorem dX12_init_17 : decode cX12_init 17 = .ok (.newarray .int, 2) := by decide +kernel
theorem dX12_init_19 : decode cX12_init 19 = .ok (.putfield 13, 3) := by decide +kernel
theorem dX12_init_22 : decode cX12_init 22 = .ok (.aload_n 0, 1) := by decide +kernel
theorem dX12_init_23 : decode cX12_init 23 = .ok (.bipush 40, 2) := by decide +kernel
theorem dX12_init_25 : decode cX12_init 25 = .ok (.newarray .int, 2) := by decide +kernel
theorem dX12_init_27 : decode cX12_init 27 = .ok (.putfield 16, 3) := by decide +kernel
theorem dX12_init_30 : decode cX12_init 30 = .ok (.aload_n 0, 1) := by decide +kernel
theorem dX12_init_31 : decode cX12_init 31 = .ok (.bipush 12, 2) := by decide +kernel
theorem dX12_init_33 : decode cX12_init 33 = .ok (.newarray .int, 2) := by decide +kernel
theorem dX12_init_35 : decode cX12_init 35 = .ok (.putfield 19, 3) := by decide +kernel
theorem dX12_init_38 : decode cX12_init 38 = .ok (.aload_n 0, 1) := by decide +kernel
theorem dX12_init_39 : decode cX12_init 39 = .ok (.iconst 3, 1) := by decide +kernel
theorem dX12_init_40 : decode cX12_init 40 = .ok (.newarray .int, 2) := by decide +kernel
theorem dX12_init_42 : decode cX12_init 42 = .ok (.putfield 22, 3) := by decide +kernel
theorem dX12_init_45 : decode cX12_init 45 = .ok (.aload_n 0, 1) := by decide +kernel
theorem dX12_init_46 : decode cX12_init 46 = .ok (.iconst 4, 1) := by decide +kernel
theorem dX12_init_47 : decode cX12_init 47 = .ok (.newarray .int, 2) := by decide +kernel
theorem dX12_init_49 : decode cX12_init 49 = .ok (.putfield 25, 3) := by decide +kernel
theorem dX12_init_52 : decode cX12_init 52 = .ok (.aload_n 0, 1) := by decide +kernel
theorem dX12_init_53 : decode cX12_init 53 = .ok (.getfield 7, 3) := by decide +kernel
theorem dX12_init_56 : decode cX12_init 56 = .ok (.iconst 0, 1) := by decide +kernel
theorem dX12_init_57 : decode cX12_init 57 = .ok (.iconst 5, 1) := by decide +kernel
theorem dX12_init_58 : decode cX12_init 58 = .ok (.iastore, 1) := by decide +kernel
theorem dX12_init_59 : decode cX12_init 59 = .ok (.aload_n 0, 1) := by decide +kernel
theorem dX12_init_60 : decode cX12_init 60 = .ok (.getfield 7, 3) := by decide +kernel
theorem dX12_init_63 : decode cX12_init 63 = .ok (.iconst 1, 1) := by decide +kernel
theorem dX12_init_64 : decode cX12_init 64 = .ok (.iconst 1, 1) := by decide +kernel
theorem dX12_init_65 : decode cX12_init 65 = .ok (.iastore, 1) := by decide +kernel
theorem dX12_init_66 : decode cX12_init 66 = .ok (.aload_n 0, 1) := by decide +kernel
theorem dX12_init_67 : decode cX12_init 67 = .ok (.getfield 7, 3) := by decide +kernel
theorem dX12_init_70 : decode cX12_init 70 = .ok (.iconst 2, 1) := by decide +kernel
theorem dX12_init_71 : decode cX12_init 71 = .ok (.bipush 50, 2) := by decide +kernel
theorem dX12_init_73 : decode cX12_init 73 = .ok (.iastore, 1) := by decide +kernel
theorem dX12_init_74 : decode cX12_init 74 = .ok (.iconst 0, 1) := by decide +kernel
theorem dX12_init_75 : decode cX12_init 75 = .ok (.istore_n 1, 1) := by decide +kernel
theorem dX12_init_76 : decode cX12_init 76 = .ok (.iload_n 1, 1) := by decide +kernel
theorem dX12_init_77 : decode cX12_init 77 = .ok (.iconst 4, 1) := by decide +kernel
theorem dX12_init_78 : decode cX12_init 78 = .ok (.if_icmp .ge 72, 3) := by decide +kernel
theorem dX12_init_81 : decode cX12_init 81 = .ok (.aload_n 0, 1) := by decide +kernel
theorem dX12_init_82 : decode cX12_init 82 = .ok (.getfield 7, 3) := by decide +kernel
theorem dX12_init_85 : decode cX12_init 85 = .ok (.bipush 102, 2) := by decide +kernel
theorem dX12_init_87 : decode cX12_init 87 = .ok (.bipush 6, 2) := by decide +kernel
theorem dX12_init_89 : decode cX12_init 89 = .ok (.iload_n 1, 1) := by decide +kernel
theorem dX12_init_90 : decode cX12_init 90 = .ok (.imul, 1) := by decide +kernel
theorem dX12_init_91 : decode cX12_init 91 = .ok (.iadd, 1) := by decide +kernel
theorem dX12_init_92 : decode cX12_init 92 = .ok (.iconst 0, 1) := by decide +kernel
theorem dX12_init_93 : decode cX12_init 93 = .ok (.iadd, 1) := by decide +kernel
theorem dX12_init_94 : decode cX12_init 94 = .ok (.iconst 1, 1) := by decide +kernel
theorem dX12_init_95 : decode cX12_init 95 = .ok (.iastore, 1) := by decide +kernel
theorem dX12_init_96 : decode cX12_init 96 = .ok (.aload_n 0, 1) := by decide +kernel
theorem dX12_init_97 : decode cX12_init 97 = .ok (.getfield 7, 3) := by decide +kernel
theorem dX12_init_100 : decode cX12_init 100 = .ok (.bipush 102, 2) := by decide +kernel
theorem dX12_init_102 : decode cX12_init 102 = .ok (.bipush 6, 2) := by decide +kernel
theorem dX12_init_104 : decode cX12_init 104 = .ok (.iload_n 1, 1) := by decide +kernel
theorem dX12_init_105 : decode cX12_init 105 = .ok (.imul, 1) := by decide +kernel
theorem dX12_init_106 : decode cX12_init 106 = .ok (.iadd, 1) := by decide +kernel
theorem dX12_init_107 : decode cX12_init 107 = .ok (.iconst 1, 1) := by decide +kernel
theorem dX12_init_108 : decode cX12_init 108 = .ok (.iadd, 1) := by decide +kernel
theorem dX12_init_109 : decode cX12_init 109 = .ok (.sipush 180, 3) := by decide +kernel
theorem dX12_init_112 : decode cX12_init 112 = .ok (.iastore, 1) := by decide +kernel
theorem dX12_init_113 : decode cX12_init 113 = .ok (.aload_n 0, 1) := by decide +kernel
theorem dX12_init_114 : decode cX12_init 114 = .ok (.getfield 7, 3) := by decide +kernel
theorem dX12_init_117 : decode cX12_init 117 = .ok (.bipush 102, 2) := by decide +kernel
theorem dX12_init_119 : decode cX12_init 119 = .ok (.bipush 6, 2) := by decide +kernel
theorem dX12_init_121 : decode cX12_init 121 = .ok (.iload_n 1, 1) := by decide +kernel
theorem dX12_init_122 : decode cX12_init 122 = .ok (.imul, 1) := by decide +kernel
theorem dX12_init_123 : decode cX12_init 123 = .ok (.iadd, 1) := by decide +kernel
theorem dX12_init_124 : decode cX12_init 124 = .ok (.iconst 3, 1) := by decide +kernel
theorem dX12_init_125 : decode cX12_init 125 = .ok (.iadd, 1) := by decide +kernel
theorem dX12_init_126 : decode cX12_init 126 = .ok (.iconst 4, 1) := by decide +kernel
theorem dX12_init_127 : decode cX12_init 127 = .ok (.iastore, 1) := by decide +kernel
theorem dX12_init_128 : decode cX12_init 128 = .ok (.aload_n 0, 1) := by decide +kernel
theorem dX12_init_129 : decode cX12_init 129 = .ok (.getfield 7, 3) := by decide +kernel
theorem dX12_init_132 : decode cX12_init 132 = .ok (.bipush 102, 2) := by decide +kernel
theorem dX12_init_134 : decode cX12_init 134 = .ok (.bipush 6, 2) := by decide +kernel
theorem dX12_init_136 : decode cX12_init 136 = .ok (.iload_n 1, 1) := by decide +kernel
theorem dX12_init_137 : decode cX12_init 137 = .ok (.imul, 1) := by decide +kernel
theorem dX12_init_138 : decode cX12_init 138 = .ok (.iadd, 1) := by decide +kernel
theorem dX12_init_139 : decode cX12_init 139 = .ok (.iconst 5, 1) := by decide +kernel
theorem dX12_init_140 : decode cX12_init 140 = .ok (.iadd, 1) := by decide +kernel
theorem dX12_init_141 : decode cX12_init 141 = .ok (.bipush 12, 2) := by decide +kernel
theorem dX12_init_143 : decode cX12_init 143 = .ok (.iastore, 1) := by decide +kernel
theorem dX12_init_144 : decode cX12_init 144 = .ok (.iinc 1 1, 3) := by decide +kernel
theorem dX12_init_147 : decode cX12_init 147 = .ok (.goto (-71), 3) := by decide +kernel
theorem dX12_init_150 : decode cX12_init 150 = .ok (.aload_n 0, 1) := by decide +kernel
theorem dX12_init_151 : decode cX12_init 151 = .ok (.invokevirtual 28, 3) := by decide +kernel
theorem dX12_init_154 : decode cX12_init 154 = .ok (.iconst 0, 1) := by decide +kernel
theorem dX12_init_155 : decode cX12_init 155 = .ok (.istore_n 1, 1) := by decide +kernel
theorem dX12_init_156 : decode cX12_init 156 = .ok (.iload_n 1, 1) := by decide +kernel
theorem dX12_init_157 : decode cX12_init 157 = .ok (.bipush 48, 2) := by decide +kernel
theorem dX12_init_159 : decode cX12_init 159 = .ok (.if_icmp .ge 20, 3) := by decide +kernel
theorem dX12_init_162 : decode cX12_init 162 = .ok (.aload_n 0, 1) := by decide +kernel
theorem dX12_init_163 : decode cX12_init 163 = .ok (.getfield 7, 3) := by decide +kernel
theorem dX12_init_166 : decode cX12_init 166 = .ok (.sipush 666, 3) := by decide +kernel
theorem dX12_init_169 : decode cX12_init 169 = .ok (.iload_n 1, 1) := by decide +kernel
theorem dX12_init_170 : decode cX12_init 170 = .ok (.iadd, 1) := by decide +kernel
theorem dX12_init_171 : decode cX12_init 171 = .ok (.iconst (-1), 1) := by decide +kernel
theorem dX12_init_172 : decode cX12_init 172 = .ok (.iastore, 1) := by decide +kernel
theorem dX12_init_173 : decode cX12_init 173 = .ok (.iinc 1 1, 3) := by decide +kernel
theorem dX12_init_176 : decode cX12_init 176 = .ok (.goto (-20), 3) := by decide +kernel
theorem dX12_init_179 : decode cX12_init 179 = .ok (.return_, 1) := by decide +kernel
theorem dX12_thrown_0 : decode cX12_thrown 0 = .ok (.aload_n 0, 1) := by decide +kernel
theorem dX12_thrown_1 : decode cX12_thrown 1 = .ok (.getfield 31, 3) := by decide +kernel
theorem dX12_thrown_4 : decode cX12_thrown 4 = .ok (.ireturn, 1) := by decide +kernel
theorem dX12_in_0 : decode cX12_in 0 = .ok (.iload_n 0, 1) := by decide +kernel
theorem dX12_in_1 : decode cX12_in 1 = .ok (.iload_n 1, 1) := by decide +kernel
theorem dX12_in_2 : decode cX12_in 2 = .ok (.if_icmp .lt 12, 3) := by decide +kernel
theorem dX12_in_5 : decode cX12_in 5 = .ok (.iload_n 0, 1) := by decide +kernel
theorem dX12_in_6 : decode cX12_in 6 = .ok (.iload_n 2, 1) := by decide +kernel
theorem dX12_in_7 : decode cX12_in 7 = .ok (.if_icmp .gt 7, 3) := by decide +kernel
theorem dX12_in_10 : decode cX12_in 10 = .ok (.iconst 1, 1) := by decide +kernel
theorem dX12_in_11 : decode cX12_in 11 = .ok (.goto 4, 3) := by decide +kernel
theorem dX12_in_14 : decode cX12_in 14 = .ok (.iconst 0, 1) := by decide +kernel
theorem dX12_in_15 : decode cX12_in 15 = .ok (.ireturn, 1) := by decide +kernel
theorem dX12_keep_0 : decode cX12_keep 0 = .ok (.aload_n 0, 1) := by decide +kernel
theorem dX12_keep_1 : decode cX12_keep 1 = .ok (.getfield 35, 3) := by decide +kernel
theorem dX12_keep_4 : decode cX12_keep 4 = .ok (.iconst 4, 1) := by decide +kernel
theorem dX12_keep_5 : decode cX12_keep 5 = .ok (.if_icmp .ne 44, 3) := by decide +kernel
theorem dX12_keep_8 : decode cX12_keep 8 = .ok (.iconst 0, 1) := by decide +kernel
theorem dX12_keep_9 : decode cX12_keep 9 = .ok (.istore_n 1, 1) := by decide +kernel
theorem dX12_keep_10 : decode cX12_keep 10 = .ok (.iload_n 1, 1) := by decide +kernel
theorem dX12_keep_11 : decode cX12_keep 11 = .ok (.sipush 2142, 3) := by decide +kernel
theorem dX12_keep_14 : decode cX12_keep 14 = .ok (.if_icmp .ge 25, 3) := by decide +kernel
theorem dX12_keep_17 : decode cX12_keep 17 = .ok (.aload_n 0, 1) := by decide +kernel
theorem dX12_keep_18 : decode cX12_keep 18 = .ok (.getfield 13, 3) := by decide +kernel
theorem dX12_keep_21 : decode cX12_keep 21 = .ok (.iload_n 1, 1) := by decide +kernel
theorem dX12_keep_22 : decode cX12_keep 22 = .ok (.aload_n 0, 1) := by decide +kernel
theorem dX12_keep_23 : decode cX12_keep 23 = .ok (.getfield 13, 3) := by decide +kernel
theorem dX12_keep_26 : decode cX12_keep 26 = .ok (.iload_n 1, 1) := by decide +kernel
theorem dX12_keep_27 : decode cX12_keep 27 = .ok (.sipush 714, 3) := by decide +kernel
theorem dX12_keep_30 : decode cX12_keep 30 = .ok (.iadd, 1) := by decide +kernel
theorem dX12_keep_31 : decode cX12_keep 31 = .ok (.iaload, 1) := by decide +kernel
theorem dX12_keep_32 : decode cX12_keep 32 = .ok (.iastore, 1) := by decide +kernel
theorem dX12_keep_33 : decode cX12_keep 33 = .ok (.iinc 1 1, 3) := by decide +kernel
theorem dX12_keep_36 : decode cX12_keep 36 = .ok (.goto (-26), 3) := by decide +kernel
theorem dX12_keep_39 : decode cX12_keep 39 = .ok (.aload_n 0, 1) := by decide +kernel
theorem dX12_keep_40 : decode cX12_keep 40 = .ok (.dup, 1) := by decide +kernel
theorem dX12_keep_41 : decode cX12_keep 41 = .ok (.getfield 35, 3) := by decide +kernel
theorem dX12_keep_44 : decode cX12_keep 44 = .ok (.iconst 1, 1) := by decide +kernel
theorem dX12_keep_45 : decode cX12_keep 45 = .ok (.isub, 1) := by decide +kernel
theorem dX12_keep_46 : decode cX12_keep 46 = .ok (.putfield 35, 3) := by decide +kernel
theorem dX12_keep_49 : decode cX12_keep 49 = .ok (.iconst 0, 1) := by decide +kernel
theorem dX12_keep_50 : decode cX12_keep 50 = .ok (.istore_n 1, 1) := by decide +kernel
theorem dX12_keep_51 : decode cX12_keep 51 = .ok (.iload_n 1, 1) := by decide +kernel
theorem dX12_keep_52 : decode cX12_keep 52 = .ok (.sipush 714, 3) := by decide +kernel
theorem dX12_keep_55 : decode cX12_keep 55 = .ok (.if_icmp .ge 30, 3) := by decide +kernel
theorem dX12_keep_58 : decode cX12_keep 58 = .ok (.aload_n 0, 1) := by decide +kernel
theorem dX12_keep_59 : decode cX12_keep 59 = .ok (.getfield 13, 3) := by decide +kernel
theorem dX12_keep_62 : decode cX12_keep 62 = .ok (.sipush 714, 3) := by decide +kernel
theorem dX12_keep_65 : decode cX12_keep 65 = .ok (.aload_n 0, 1) := by decide +kernel
theorem dX12_keep_66 : decode cX12_keep 66 = .ok (.getfield 35, 3) := by decide +kernel
theorem dX12_keep_69 : decode cX12_keep 69 = .ok (.imul, 1) := by decide +kernel
theorem dX12_keep_70 : decode cX12_keep 70 = .ok (.iload_n 1, 1) := by decide +kernel
theorem dX12_keep_71 : decode cX12_keep 71 = .ok (.iadd, 1) := by decide +kernel
theorem dX12_keep_72 : decode cX12_keep 72 = .ok (.aload_n 0, 1) := by decide +kernel
theorem dX12_keep_73 : decode cX12_keep 73 = .ok (.getfield 7, 3) := by decide +kernel
theorem dX12_keep_76 : decode cX12_keep 76 = .ok (.iload_n 1, 1) := by decide +kernel
theorem dX12_keep_77 : decode cX12_keep 77 = .ok (.iaload, 1) := by decide +kernel
theorem dX12_keep_78 : decode cX12_keep 78 = .ok (.iastore, 1) := by decide +kernel
theorem dX12_keep_79 : decode cX12_keep 79 = .ok (.iinc 1 1, 3) := by decide +kernel
theorem dX12_keep_82 : decode cX12_keep 82 = .ok (.goto (-31), 3) := by decide +kernel
theorem dX12_keep_85 : decode cX12_keep 85 = .ok (.aload_n 0, 1) := by decide +kernel
theorem dX12_keep_86 : decode cX12_keep 86 = .ok (.dup, 1) := by decide +kernel
theorem dX12_keep_87 : decode cX12_keep 87 = .ok (.getfield 35, 3) := by decide +kernel
theorem dX12_keep_90 : decode cX12_keep 90 = .ok (.iconst 1, 1) := by decide +kernel
theorem dX12_keep_91 : decode cX12_keep 91 = .ok (.iadd, 1) := by decide +kernel
theorem dX12_keep_92 : decode cX12_keep 92 = .ok (.putfield 35, 3) := by decide +kernel
theorem dX12_keep_95 : decode cX12_keep 95 = .ok (.return_, 1) := by decide +kernel
set_option maxRecDepth 20000 in
theorem ggX12_put_X12_keep : GoodIn wsX12_put wsX12_keep := goodIn_r _ [6, 7, 8, 1, 9, 10, 11, 12, 13, 14, 15, 16, 17, 18, 19, 20] (by decide +kernel) (by decide +kernel)
set_option maxRecDepth 20000 in
theorem gX12_put_X12_keep : GoodIn wsX12_put (wsV RX12 38 RX12 yX12_keep wsX12_keep) := goodIn_app (goodIn_of _ (by decide +kernel)) ggX12_put_X12_keep
theorem dX12_put_0 : decode cX12_put 0 = .ok (.aload_n 0, 1) := by decide +kernel
theorem dX12_put_1 : decode cX12_put 1 = .ok (.invokevirtual 38, 3) := by decide +kernel
theorem dX12_put_4 : decode cX12_put 4 = .ok (.aload_n 0, 1) := by decide +kernel
theorem dX12_put_5 : decode cX12_put 5 = .ok (.getfield 7, 3) := by decide +kernel
theorem dX12_put_8 : decode cX12_put 8 = .ok (.iload_n 1, 1) := by decide +kernel
theorem dX12_put_9 : decode cX12_put 9 = .ok (.iaload, 1) := by decide +kernel
theorem dX12_put_10 : decode cX12_put 10 = .ok (.istore_n 3, 1) := by decide +kernel
theorem dX12_put_11 : decode cX12_put 11 = .ok (.aload_n 0, 1) := by decide +kernel
theorem dX12_put_12 : decode cX12_put 12 = .ok (.getfield 7, 3) := by decide +kernel
theorem dX12_put_15 : decode cX12_put 15 = .ok (.iload_n 1, 1) := by decide +kernel
theorem dX12_put_16 : decode cX12_put 16 = .ok (.iload_n 2, 1) := by decide +kernel
theorem dX12_put_17 : decode cX12_put 17 = .ok (.iastore, 1) := by decide +kernel
theorem dX12_put_18 : decode cX12_put 18 = .ok (.iload_n 3, 1) := by decide +kernel
theorem dX12_put_19 : decode cX12_put 19 = .ok (.ireturn, 1) := by decide +kernel
set_option maxRecDepth 20000 in
theorem ggX12_isEntrant_X12_in : GoodIn wsX12_isEntrant wsX12_in := goodIn_r _ [5] (by decide +kernel) (by decide +kernel)
set_option maxRecDepth 20000 in
theorem gX12_isEntrant_X12_in : GoodIn wsX12_isEntrant (va_wsS RX12 41 yX12_in wsX12_in) := goodIn_app (goodIn_of _ (by decide +kernel)) ggX12_isEntrant_X12_in
theorem dX12_isEntrant_0 : decode cX12_isEntrant 0 = .ok (.iload_n 1, 1) := by decide +kernel
theorem dX12_isEntrant_1 : decode cX12_isEntrant 1 = .ok (.iconst 0, 1) := by decide +kernel
theorem dX12_isEntrant_2 : decode cX12_isEntrant 2 = .ok (.aload_n 0, 1) := by decide +kernel
theorem dX12_isEntrant_3 : decode cX12_isEntrant 3 = .ok (.getfield 7, 3) := by decide +kernel
theorem dX12_isEntrant_6 : decode cX12_isEntrant 6 = .ok (.bipush 6, 2) := by decide +kernel
theorem dX12_isEntrant_8 : decode cX12_isEntrant 8 = .ok (.iaload, 1) := by decide +kernel
theorem dX12_isEntrant_9 : decode cX12_isEntrant 9 = .ok (.iconst 1, 1) := by decide +kernel
theorem dX12_isEntrant_10 : decode cX12_isEntrant 10 = .ok (.isub, 1) := by decide +kernel
theorem dX12_isEntrant_11 : decode cX12_isEntrant 11 = .ok (.invokestatic 41, 3) := by decide +kernel
theorem dX12_isEntrant_14 : decode cX12_isEntrant 14 = .ok (.ireturn, 1) := by decide +kernel
set_option maxRecDepth 20000 in
theorem ggX12_isJuror_X12_in : GoodIn wsX12_isJuror wsX12_in := goodIn_r _ [5] (by decide +kernel) (by decide +kernel)
set_option maxRecDepth 20000 in
theorem gX12_isJuror_X12_in : GoodIn wsX12_isJuror (va_wsS RX12 41 yX12_in wsX12_in) := goodIn_app (goodIn_of _ (by decide +kernel)) ggX12_isJuror_X12_in
theorem dX12_isJuror_0 : decode cX12_isJuror 0 = .ok (.iload_n 1, 1) := by decide +kernel
theorem dX12_isJuror_1 : decode cX12_isJuror 1 = .ok (.iconst 0, 1) := by decide +kernel
theorem dX12_isJuror_2 : decode cX12_isJuror 2 = .ok (.aload_n 0, 1) := by decide +kernel
theorem dX12_isJuror_3 : decode cX12_isJuror 3 = .ok (.getfield 7, 3) := by decide +kernel
theorem dX12_isJuror_6 : decode cX12_isJuror 6 = .ok (.iconst 0, 1) := by decide +kernel
theorem dX12_isJuror_7 : decode cX12_isJuror 7 = .ok (.iaload, 1) := by decide +kernel
theorem dX12_isJuror_8 : decode cX12_isJuror 8 = .ok (.iconst 1, 1) := by decide +kernel
theorem dX12_isJuror_9 : decode cX12_isJuror 9 = .ok (.isub, 1) := by decide +kernel
theorem dX12_isJuror_10 : decode cX12_isJuror 10 = .ok (.invokestatic 41, 3) := by decide +kernel
theorem dX12_isJuror_13 : decode cX12_isJuror 13 = .ok (.ireturn, 1) := by decide +kernel
set_option maxRecDepth 20000 in
theorem ggX12_isRound_X12_in : GoodIn wsX12_isRound wsX12_in := goodIn_r _ [4] (by decide +kernel) (by decide +kernel)
set_option maxRecDepth 20000 in
theorem gX12_isRound_X12_in : GoodIn wsX12_isRound (va_wsS RX12 41 yX12_in wsX12_in) := goodIn_app (goodIn_of _ (by decide +kernel)) ggX12_isRound_X12_in
theorem dX12_isRound_0 : decode cX12_isRound 0 = .ok (.iload_n 0, 1) := by decide +kernel
theorem dX12_isRound_1 : decode cX12_isRound 1 = .ok (.iconst 0, 1) := by decide +kernel
theorem dX12_isRound_2 : decode cX12_isRound 2 = .ok (.iconst 3, 1) := by decide +kernel
theorem dX12_isRound_3 : decode cX12_isRound 3 = .ok (.invokestatic 41, 3) := by decide +kernel
theorem dX12_isRound_6 : decode cX12_isRound 6 = .ok (.ireturn, 1) := by decide +kernel
set_option maxRecDepth 20000 in
theorem ggX12_addWork_X12_in : GoodIn wsX12_addWork wsX12_in := goodIn_r _ [6] (by decide +kernel) (by decide +kernel)
set_option maxRecDepth 20000 in
theorem gX12_addWork_X12_in : GoodIn wsX12_addWork (va_wsS RX12 41 yX12_in wsX12_in) := goodIn_app (goodIn_of _ (by decide +kernel)) ggX12_addWork_X12_in
set_option maxRecDepth 20000 in
theorem ggX12_addWork_X12_keep : GoodIn wsX12_addWork wsX12_keep := goodIn_r _ [10, 11, 12, 1, 13, 14, 15, 16, 17, 18, 19, 20, 21, 22, 23, 24] (by decide +kernel) (by decide +kernel)
set_option maxRecDepth 20000 in
theorem gX12_addWork_X12_keep : GoodIn wsX12_addWork (wsV RX12 38 RX12 yX12_keep wsX12_keep) := goodIn_app (goodIn_of _ (by decide +kernel)) ggX12_addWork_X12_keep
theorem dX12_addWork_0 : decode cX12_addWork 0 = .ok (.aload_n 0, 1) := by decide +kernel
theorem dX12_addWork_1 : decode cX12_addWork 1 = .ok (.iload_n 1, 1) := by decide +kernel
theorem dX12_addWork_2 : decode cX12_addWork 2 = .ok (.iconst 0, 1) := by decide +kernel
theorem dX12_addWork_3 : decode cX12_addWork 3 = .ok (.bipush 9, 2) := by decide +kernel
theorem dX12_addWork_5 : decode cX12_addWork 5 = .ok (.invokestatic 41, 3) := by decide +kernel
theorem dX12_addWork_8 : decode cX12_addWork 8 = .ok (.ifCond .eq 22, 3) := by decide +kernel
theorem dX12_addWork_11 : decode cX12_addWork 11 = .ok (.iload_n 2, 1) := by decide +kernel
theorem dX12_addWork_12 : decode cX12_addWork 12 = .ok (.iconst 0, 1) := by decide +kernel
theorem dX12_addWork_13 : decode cX12_addWork 13 = .ok (.iconst 4, 1) := by decide +kernel
theorem dX12_addWork_14 : decode cX12_addWork 14 = .ok (.invokestatic 41, 3) := by decide +kernel
theorem dX12_addWork_17 : decode cX12_addWork 17 = .ok (.ifCond .eq 13, 3) := by decide +kernel
theorem dX12_addWork_20 : decode cX12_addWork 20 = .ok (.iload_n 3, 1) := by decide +kernel
theorem dX12_addWork_21 : decode cX12_addWork 21 = .ok (.iconst 1, 1) := by decide +kernel
theorem dX12_addWork_22 : decode cX12_addWork 22 = .ok (.bipush 60, 2) := by decide +kernel
theorem dX12_addWork_24 : decode cX12_addWork 24 = .ok (.invokestatic 41, 3) := by decide +kernel
theorem dX12_addWork_27 : decode cX12_addWork 27 = .ok (.ifCond .ne 7, 3) := by decide +kernel
theorem dX12_addWork_30 : decode cX12_addWork 30 = .ok (.iconst 1, 1) := by decide +kernel
theorem dX12_addWork_31 : decode cX12_addWork 31 = .ok (.goto 28, 3) := by decide +kernel
theorem dX12_addWork_34 : decode cX12_addWork 34 = .ok (.aload_n 0, 1) := by decide +kernel
theorem dX12_addWork_35 : decode cX12_addWork 35 = .ok (.getfield 7, 3) := by decide +kernel
theorem dX12_addWork_38 : decode cX12_addWork 38 = .ok (.iconst 3, 1) := by decide +kernel
theorem dX12_addWork_39 : decode cX12_addWork 39 = .ok (.iaload, 1) := by decide +kernel
theorem dX12_addWork_40 : decode cX12_addWork 40 = .ok (.ifCond .ne 14, 3) := by decide +kernel
theorem dX12_addWork_43 : decode cX12_addWork 43 = .ok (.aload_n 0, 1) := by decide +kernel
theorem dX12_addWork_44 : decode cX12_addWork 44 = .ok (.getfield 7, 3) := by decide +kernel
theorem dX12_addWork_47 : decode cX12_addWork 47 = .ok (.iconst 5, 1) := by decide +kernel
theorem dX12_addWork_48 : decode cX12_addWork 48 = .ok (.iaload, 1) := by decide +kernel
theorem dX12_addWork_49 : decode cX12_addWork 49 = .ok (.bipush 30, 2) := by decide +kernel
theorem dX12_addWork_51 : decode cX12_addWork 51 = .ok (.if_icmp .ne 7, 3) := by decide +kernel
theorem dX12_addWork_54 : decode cX12_addWork 54 = .ok (.iconst 2, 1) := by decide +kernel
theorem dX12_addWork_55 : decode cX12_addWork 55 = .ok (.goto 4, 3) := by decide +kernel
theorem dX12_addWork_58 : decode cX12_addWork 58 = .ok (.iconst 0, 1) := by decide +kernel
theorem dX12_addWork_59 : decode cX12_addWork 59 = .ok (.putfield 31, 3) := by decide +kernel
theorem dX12_addWork_62 : decode cX12_addWork 62 = .ok (.aload_n 0, 1) := by decide +kernel
theorem dX12_addWork_63 : decode cX12_addWork 63 = .ok (.getfield 31, 3) := by decide +kernel
theorem dX12_addWork_66 : decode cX12_addWork 66 = .ok (.ifCond .eq 5, 3) := by decide +kernel
theorem dX12_addWork_69 : decode cX12_addWork 69 = .ok (.iconst 0, 1) := by decide +kernel
theorem dX12_addWork_70 : decode cX12_addWork 70 = .ok (.ireturn, 1) := by decide +kernel
theorem dX12_addWork_71 : decode cX12_addWork 71 = .ok (.aload_n 0, 1) := by decide +kernel
theorem dX12_addWork_72 : decode cX12_addWork 72 = .ok (.invokevirtual 38, 3) := by decide +kernel
theorem dX12_addWork_75 : decode cX12_addWork 75 = .ok (.bipush 12, 2) := by decide +kernel
theorem dX12_addWork_77 : decode cX12_addWork 77 = .ok (.iconst 3, 1) := by decide +kernel
theorem dX12_addWork_78 : decode cX12_addWork 78 = .ok (.aload_n 0, 1) := by decide +kernel
theorem dX12_addWork_79 : decode cX12_addWork 79 = .ok (.getfield 7, 3) := by decide +kernel
theorem dX12_addWork_82 : decode cX12_addWork 82 = .ok (.iconst 5, 1) := by decide +kernel
theorem dX12_addWork_83 : decode cX12_addWork 83 = .ok (.iaload, 1) := by decide +kernel
theorem dX12_addWork_84 : decode cX12_addWork 84 = .ok (.imul, 1) := by decide +kernel
theorem dX12_addWork_85 : decode cX12_addWork 85 = .ok (.iadd, 1) := by decide +kernel
theorem dX12_addWork_86 : decode cX12_addWork 86 = .ok (.istore 4, 2) := by decide +kernel
theorem dX12_addWork_88 : decode cX12_addWork 88 = .ok (.aload_n 0, 1) := by decide +kernel
theorem dX12_addWork_89 : decode cX12_addWork 89 = .ok (.getfield 7, 3) := by decide +kernel
theorem dX12_addWork_92 : decode cX12_addWork 92 = .ok (.iload 4, 2) := by decide +kernel
theorem dX12_addWork_94 : decode cX12_addWork 94 = .ok (.iload_n 1, 1) := by decide +kernel
theorem dX12_addWork_95 : decode cX12_addWork 95 = .ok (.iastore, 1) := by decide +kernel
theorem dX12_addWork_96 : decode cX12_addWork 96 = .ok (.aload_n 0, 1) := by decide +kernel
theorem dX12_addWork_97 : decode cX12_addWork 97 = .ok (.getfield 7, 3) := by decide +kernel
theorem dX12_addWork_100 : decode cX12_addWork 100 = .ok (.iload 4, 2) := by decide +kernel
theorem dX12_addWork_102 : decode cX12_addWork 102 = .ok (.iconst 1, 1) := by decide +kernel
theorem dX12_addWork_103 : decode cX12_addWork 103 = .ok (.iadd, 1) := by decide +kernel
theorem dX12_addWork_104 : decode cX12_addWork 104 = .ok (.iload_n 2, 1) := by decide +kernel
theorem dX12_addWork_105 : decode cX12_addWork 105 = .ok (.iastore, 1) := by decide +kernel
theorem dX12_addWork_106 : decode cX12_addWork 106 = .ok (.aload_n 0, 1) := by decide +kernel
theorem dX12_addWork_107 : decode cX12_addWork 107 = .ok (.getfield 7, 3) := by decide +kernel
theorem dX12_addWork_110 : decode cX12_addWork 110 = .ok (.iload 4, 2) := by decide +kernel
theorem dX12_addWork_112 : decode cX12_addWork 112 = .ok (.iconst 2, 1) := by decide +kernel
theorem dX12_addWork_113 : decode cX12_addWork 113 = .ok (.iadd, 1) := by decide +kernel
theorem dX12_addWork_114 : decode cX12_addWork 114 = .ok (.iload_n 3, 1) := by decide +kernel
theorem dX12_addWork_115 : decode cX12_addWork 115 = .ok (.iastore, 1) := by decide +kernel
theorem dX12_addWork_116 : decode cX12_addWork 116 = .ok (.aload_n 0, 1) := by decide +kernel
theorem dX12_addWork_117 : decode cX12_addWork 117 = .ok (.getfield 7, 3) := by decide +kernel
theorem dX12_addWork_120 : decode cX12_addWork 120 = .ok (.iconst 5, 1) := by decide +kernel
theorem dX12_addWork_121 : decode cX12_addWork 121 = .ok (.dup2, 1) := by decide +kernel
theorem dX12_addWork_122 : decode cX12_addWork 122 = .ok (.iaload, 1) := by decide +kernel
theorem dX12_addWork_123 : decode cX12_addWork 123 = .ok (.iconst 1, 1) := by decide +kernel
theorem dX12_addWork_124 : decode cX12_addWork 124 = .ok (.iadd, 1) := by decide +kernel
theorem dX12_addWork_125 : decode cX12_addWork 125 = .ok (.iastore, 1) := by decide +kernel
theorem dX12_addWork_126 : decode cX12_addWork 126 = .ok (.aload_n 0, 1) := by decide +kernel
theorem dX12_addWork_127 : decode cX12_addWork 127 = .ok (.getfield 7, 3) := by decide +kernel
theorem dX12_addWork_130 : decode cX12_addWork 130 = .ok (.iconst 5, 1) := by decide +kernel
theorem dX12_addWork_131 : decode cX12_addWork 131 = .ok (.iaload, 1) := by decide +kernel
theorem dX12_addWork_132 : decode cX12_addWork 132 = .ok (.iconst 1, 1) := by decide +kernel
theorem dX12_addWork_133 : decode cX12_addWork 133 = .ok (.isub, 1) := by decide +kernel
theorem dX12_addWork_134 : decode cX12_addWork 134 = .ok (.ireturn, 1) := by decide +kernel
set_option maxRecDepth 20000 in
theorem ggX12_work_X12_in : GoodIn wsX12_work wsX12_in := goodIn_r _ [6] (by decide +kernel) (by decide +kernel)
set_option maxRecDepth 20000 in
theorem gX12_work_X12_in : GoodIn wsX12_work (va_wsS RX12 41 yX12_in wsX12_in) := goodIn_app (goodIn_of _ (by decide +kernel)) ggX12_work_X12_in
theorem dX12_work_0 : decode cX12_work 0 = .ok (.aload_n 0, 1) := by decide +kernel
theorem dX12_work_1 : decode cX12_work 1 = .ok (.iload_n 1, 1) := by decide +kernel
theorem dX12_work_2 : decode cX12_work 2 = .ok (.iconst 0, 1) := by decide +kernel
theorem dX12_work_3 : decode cX12_work 3 = .ok (.aload_n 0, 1) := by decide +kernel
theorem dX12_work_4 : decode cX12_work 4 = .ok (.getfield 7, 3) := by decide +kernel
theorem dX12_work_7 : decode cX12_work 7 = .ok (.iconst 5, 1) := by decide +kernel
theorem dX12_work_8 : decode cX12_work 8 = .ok (.iaload, 1) := by decide +kernel
theorem dX12_work_9 : decode cX12_work 9 = .ok (.iconst 1, 1) := by decide +kernel
theorem dX12_work_10 : decode cX12_work 10 = .ok (.isub, 1) := by decide +kernel
theorem dX12_work_11 : decode cX12_work 11 = .ok (.invokestatic 41, 3) := by decide +kernel
theorem dX12_work_14 : decode cX12_work 14 = .ok (.ifCond .ne 7, 3) := by decide +kernel
theorem dX12_work_17 : decode cX12_work 17 = .ok (.iconst 1, 1) := by decide +kernel
theorem dX12_work_18 : decode cX12_work 18 = .ok (.goto 17, 3) := by decide +kernel
theorem dX12_work_21 : decode cX12_work 21 = .ok (.iload_n 2, 1) := by decide +kernel
theorem dX12_work_22 : decode cX12_work 22 = .ok (.iconst 0, 1) := by decide +kernel
theorem dX12_work_23 : decode cX12_work 23 = .ok (.iconst 2, 1) := by decide +kernel
theorem dX12_work_24 : decode cX12_work 24 = .ok (.invokestatic 41, 3) := by decide +kernel
theorem dX12_work_27 : decode cX12_work 27 = .ok (.ifCond .eq 7, 3) := by decide +kernel
theorem dX12_work_30 : decode cX12_work 30 = .ok (.iconst 0, 1) := by decide +kernel
theorem dX12_work_31 : decode cX12_work 31 = .ok (.goto 4, 3) := by decide +kernel
theorem dX12_work_34 : decode cX12_work 34 = .ok (.iconst 2, 1) := by decide +kernel
theorem dX12_work_35 : decode cX12_work 35 = .ok (.putfield 31, 3) := by decide +kernel
theorem dX12_work_38 : decode cX12_work 38 = .ok (.aload_n 0, 1) := by decide +kernel
theorem dX12_work_39 : decode cX12_work 39 = .ok (.getfield 31, 3) := by decide +kernel
theorem dX12_work_42 : decode cX12_work 42 = .ok (.ifCond .eq 7, 3) := by decide +kernel
theorem dX12_work_45 : decode cX12_work 45 = .ok (.iconst 0, 1) := by decide +kernel
theorem dX12_work_46 : decode cX12_work 46 = .ok (.goto 16, 3) := by decide +kernel
theorem dX12_work_49 : decode cX12_work 49 = .ok (.aload_n 0, 1) := by decide +kernel
theorem dX12_work_50 : decode cX12_work 50 = .ok (.getfield 7, 3) := by decide +kernel
theorem dX12_work_53 : decode cX12_work 53 = .ok (.bipush 12, 2) := by decide +kernel
theorem dX12_work_55 : decode cX12_work 55 = .ok (.iconst 3, 1) := by decide +kernel
theorem dX12_work_56 : decode cX12_work 56 = .ok (.iload_n 1, 1) := by decide +kernel
theorem dX12_work_57 : decode cX12_work 57 = .ok (.imul, 1) := by decide +kernel
theorem dX12_work_58 : decode cX12_work 58 = .ok (.iadd, 1) := by decide +kernel
theorem dX12_work_59 : decode cX12_work 59 = .ok (.iload_n 2, 1) := by decide +kernel
theorem dX12_work_60 : decode cX12_work 60 = .ok (.iadd, 1) := by decide +kernel
theorem dX12_work_61 : decode cX12_work 61 = .ok (.iaload, 1) := by decide +kernel
theorem dX12_work_62 : decode cX12_work 62 = .ok (.ireturn, 1) := by decide +kernel
set_option maxRecDepth 20000 in
theorem ggX12_addEntrant_X12_keep : GoodIn wsX12_addEntrant wsX12_keep := goodIn_r _ [7, 8, 9, 1, 10, 11, 12, 13, 14, 15, 16, 17, 18, 19, 20, 21] (by decide +kernel) (by decide +kernel)
set_option maxRecDepth 20000 in
theorem gX12_addEntrant_X12_keep : GoodIn wsX12_addEntrant (wsV RX12 38 RX12 yX12_keep wsX12_keep) := goodIn_app (goodIn_of _ (by decide +kernel)) ggX12_addEntrant_X12_keep
theorem dX12_addEntrant_0 : decode cX12_addEntrant 0 = .ok (.aload_n 0, 1) := by decide +kernel
theorem dX12_addEntrant_1 : decode cX12_addEntrant 1 = .ok (.aload_n 0, 1) := by decide +kernel
theorem dX12_addEntrant_2 : decode cX12_addEntrant 2 = .ok (.getfield 7, 3) := by decide +kernel
theorem dX12_addEntrant_5 : decode cX12_addEntrant 5 = .ok (.iconst 3, 1) := by decide +kernel
theorem dX12_addEntrant_6 : decode cX12_addEntrant 6 = .ok (.iaload, 1) := by decide +kernel
theorem dX12_addEntrant_7 : decode cX12_addEntrant 7 = .ok (.ifCond .ne 15, 3) := by decide +kernel
theorem dX12_addEntrant_10 : decode cX12_addEntrant 10 = .ok (.aload_n 0, 1) := by decide +kernel
theorem dX12_addEntrant_11 : decode cX12_addEntrant 11 = .ok (.getfield 7, 3) := by decide +kernel
theorem dX12_addEntrant_14 : decode cX12_addEntrant 14 = .ok (.bipush 6, 2) := by decide +kernel
theorem dX12_addEntrant_16 : decode cX12_addEntrant 16 = .ok (.iaload, 1) := by decide +kernel
theorem dX12_addEntrant_17 : decode cX12_addEntrant 17 = .ok (.bipush 12, 2) := by decide +kernel
theorem dX12_addEntrant_19 : decode cX12_addEntrant 19 = .ok (.if_icmp .ne 7, 3) := by decide +kernel
theorem dX12_addEntrant_22 : decode cX12_addEntrant 22 = .ok (.iconst 1, 1) := by decide +kernel
theorem dX12_addEntrant_23 : decode cX12_addEntrant 23 = .ok (.goto 4, 3) := by decide +kernel
theorem dX12_addEntrant_26 : decode cX12_addEntrant 26 = .ok (.iconst 0, 1) := by decide +kernel
theorem dX12_addEntrant_27 : decode cX12_addEntrant 27 = .ok (.putfield 31, 3) := by decide +kernel
theorem dX12_addEntrant_30 : decode cX12_addEntrant 30 = .ok (.aload_n 0, 1) := by decide +kernel
theorem dX12_addEntrant_31 : decode cX12_addEntrant 31 = .ok (.getfield 31, 3) := by decide +kernel
theorem dX12_addEntrant_34 : decode cX12_addEntrant 34 = .ok (.ifCond .eq 5, 3) := by decide +kernel
theorem dX12_addEntrant_37 : decode cX12_addEntrant 37 = .ok (.iconst 0, 1) := by decide +kernel
theorem dX12_addEntrant_38 : decode cX12_addEntrant 38 = .ok (.ireturn, 1) := by decide +kernel
theorem dX12_addEntrant_39 : decode cX12_addEntrant 39 = .ok (.aload_n 0, 1) := by decide +kernel
theorem dX12_addEntrant_40 : decode cX12_addEntrant 40 = .ok (.invokevirtual 38, 3) := by decide +kernel
theorem dX12_addEntrant_43 : decode cX12_addEntrant 43 = .ok (.aload_n 0, 1) := by decide +kernel
theorem dX12_addEntrant_44 : decode cX12_addEntrant 44 = .ok (.getfield 7, 3) := by decide +kernel
theorem dX12_addEntrant_47 : decode cX12_addEntrant 47 = .ok (.bipush 126, 2) := by decide +kernel
theorem dX12_addEntrant_49 : decode cX12_addEntrant 49 = .ok (.aload_n 0, 1) := by decide +kernel
theorem dX12_addEntrant_50 : decode cX12_addEntrant 50 = .ok (.getfield 7, 3) := by decide +kernel
theorem dX12_addEntrant_53 : decode cX12_addEntrant 53 = .ok (.bipush 6, 2) := by decide +kernel
theorem dX12_addEntrant_55 : decode cX12_addEntrant 55 = .ok (.iaload, 1) := by decide +kernel
theorem dX12_addEntrant_56 : decode cX12_addEntrant 56 = .ok (.iadd, 1) := by decide +kernel
theorem dX12_addEntrant_57 : decode cX12_addEntrant 57 = .ok (.iconst 1, 1) := by decide +kernel
theorem dX12_addEntrant_58 : decode cX12_addEntrant 58 = .ok (.iastore, 1) := by decide +kernel
theorem dX12_addEntrant_59 : decode cX12_addEntrant 59 = .ok (.aload_n 0, 1) := by decide +kernel
theorem dX12_addEntrant_60 : decode cX12_addEntrant 60 = .ok (.getfield 7, 3) := by decide +kernel
theorem dX12_addEntrant_63 : decode cX12_addEntrant 63 = .ok (.bipush 6, 2) := by decide +kernel
theorem dX12_addEntrant_65 : decode cX12_addEntrant 65 = .ok (.dup2, 1) := by decide +kernel
theorem dX12_addEntrant_66 : decode cX12_addEntrant 66 = .ok (.iaload, 1) := by decide +kernel
theorem dX12_addEntrant_67 : decode cX12_addEntrant 67 = .ok (.iconst 1, 1) := by decide +kernel
theorem dX12_addEntrant_68 : decode cX12_addEntrant 68 = .ok (.iadd, 1) := by decide +kernel
theorem dX12_addEntrant_69 : decode cX12_addEntrant 69 = .ok (.iastore, 1) := by decide +kernel
theorem dX12_addEntrant_70 : decode cX12_addEntrant 70 = .ok (.aload_n 0, 1) := by decide +kernel
theorem dX12_addEntrant_71 : decode cX12_addEntrant 71 = .ok (.getfield 7, 3) := by decide +kernel
theorem dX12_addEntrant_74 : decode cX12_addEntrant 74 = .ok (.bipush 6, 2) := by decide +kernel
theorem dX12_addEntrant_76 : decode cX12_addEntrant 76 = .ok (.iaload, 1) := by decide +kernel
theorem dX12_addEntrant_77 : decode cX12_addEntrant 77 = .ok (.iconst 1, 1) := by decide +kernel
theorem dX12_addEntrant_78 : decode cX12_addEntrant 78 = .ok (.isub, 1) := by decide +kernel
theorem dX12_addEntrant_79 : decode cX12_addEntrant 79 = .ok (.ireturn, 1) := by decide +kernel
theorem dX12_seat_0 : decode cX12_seat 0 = .ok (.bipush 12, 2) := by decide +kernel
theorem dX12_seat_2 : decode cX12_seat 2 = .ok (.iload_n 0, 1) := by decide +kernel
theorem dX12_seat_3 : decode cX12_seat 3 = .ok (.imul, 1) := by decide +kernel
theorem dX12_seat_4 : decode cX12_seat 4 = .ok (.iload_n 1, 1) := by decide +kernel
theorem dX12_seat_5 : decode cX12_seat 5 = .ok (.iadd, 1) := by decide +kernel
theorem dX12_seat_6 : decode cX12_seat 6 = .ok (.ireturn, 1) := by decide +kernel
set_option maxRecDepth 20000 in
theorem ggX12_isBarred_X12_seat : GoodIn wsX12_isBarred wsX12_seat := goodIn_r _ [5] (by decide +kernel) (by decide +kernel)
set_option maxRecDepth 20000 in
theorem gX12_isBarred_X12_seat : GoodIn wsX12_isBarred (va_wsS RX12 45 yX12_seat wsX12_seat) := goodIn_app (goodIn_of _ (by decide +kernel)) ggX12_isBarred_X12_seat
theorem dX12_isBarred_0 : decode cX12_isBarred 0 = .ok (.aload_n 0, 1) := by decide +kernel
theorem dX12_isBarred_1 : decode cX12_isBarred 1 = .ok (.getfield 7, 3) := by decide +kernel
theorem dX12_isBarred_4 : decode cX12_isBarred 4 = .ok (.sipush 378, 3) := by decide +kernel
theorem dX12_isBarred_7 : decode cX12_isBarred 7 = .ok (.iload_n 1, 1) := by decide +kernel
theorem dX12_isBarred_8 : decode cX12_isBarred 8 = .ok (.iload_n 2, 1) := by decide +kernel
theorem dX12_isBarred_9 : decode cX12_isBarred 9 = .ok (.invokestatic 45, 3) := by decide +kernel
theorem dX12_isBarred_12 : decode cX12_isBarred 12 = .ok (.iadd, 1) := by decide +kernel
theorem dX12_isBarred_13 : decode cX12_isBarred 13 = .ok (.iaload, 1) := by decide +kernel
theorem dX12_isBarred_14 : decode cX12_isBarred 14 = .ok (.iconst 1, 1) := by decide +kernel
theorem dX12_isBarred_15 : decode cX12_isBarred 15 = .ok (.if_icmp .ne 7, 3) := by decide +kernel
theorem dX12_isBarred_18 : decode cX12_isBarred 18 = .ok (.iconst 1, 1) := by decide +kernel
theorem dX12_isBarred_19 : decode cX12_isBarred 19 = .ok (.goto 4, 3) := by decide +kernel
theorem dX12_isBarred_22 : decode cX12_isBarred 22 = .ok (.iconst 0, 1) := by decide +kernel
theorem dX12_isBarred_23 : decode cX12_isBarred 23 = .ok (.ireturn, 1) := by decide +kernel
set_option maxRecDepth 20000 in
theorem ggX12_bar_X12_isJuror : GoodIn wsX12_bar wsX12_isJuror := goodIn_r _ [6, 7, 8, 9, 5, 10, 28, 29, 30, 31, 32, 33, 34, 35, 36, 37, 38, 39] (by decide +kernel) (by decide +kernel)
set_option maxRecDepth 20000 in
theorem gX12_bar_X12_isJuror : GoodIn wsX12_bar (wsV RX12 49 RX12 yX12_isJuror wsX12_isJuror) := goodIn_app (goodIn_of _ (by decide +kernel)) ggX12_bar_X12_isJuror
set_option maxRecDepth 20000 in
theorem ggX12_bar_X12_isEntrant : GoodIn wsX12_bar wsX12_isEntrant := goodIn_r _ [14, 7, 8, 9, 5, 10, 28, 29, 30, 31, 32, 33, 34, 35, 36, 37, 38, 39] (by decide +kernel) (by decide +kernel)
set_option maxRecDepth 20000 in
theorem gX12_bar_X12_isEntrant : GoodIn wsX12_bar (wsV RX12 53 RX12 yX12_isEntrant wsX12_isEntrant) := goodIn_app (goodIn_of _ (by decide +kernel)) ggX12_bar_X12_isEntrant
set_option maxRecDepth 20000 in
theorem ggX12_bar_X12_seat : GoodIn wsX12_bar wsX12_seat := goodIn_r _ [17] (by decide +kernel) (by decide +kernel)
set_option maxRecDepth 20000 in
theorem gX12_bar_X12_seat : GoodIn wsX12_bar (va_wsS RX12 45 yX12_seat wsX12_seat) := goodIn_app (goodIn_of _ (by decide +kernel)) ggX12_bar_X12_seat
set_option maxRecDepth 20000 in
theorem ggX12_bar_X12_put : GoodIn wsX12_bar wsX12_put := goodIn_r _ [21, 7, 22, 23, 24, 5, 25, 26, 27, 28, 29, 30, 31, 32, 33, 34, 35, 36, 37, 38, 39] (by decide +kernel) (by decide +kernel)
set_option maxRecDepth 20000 in
theorem gX12_bar_X12_put : GoodIn wsX12_bar (wsV RX12 56 RX12 yX12_put wsX12_put) := goodIn_app (goodIn_of _ (by decide +kernel)) ggX12_bar_X12_put
theorem dX12_bar_0 : decode cX12_bar 0 = .ok (.aload_n 0, 1) := by decide +kernel
theorem dX12_bar_1 : decode cX12_bar 1 = .ok (.aload_n 0, 1) := by decide +kernel
theorem dX12_bar_2 : decode cX12_bar 2 = .ok (.iload_n 1, 1) := by decide +kernel
theorem dX12_bar_3 : decode cX12_bar 3 = .ok (.invokevirtual 49, 3) := by decide +kernel
theorem dX12_bar_6 : decode cX12_bar 6 = .ok (.ifCond .eq 15, 3) := by decide +kernel
theorem dX12_bar_9 : decode cX12_bar 9 = .ok (.aload_n 0, 1) := by decide +kernel
theorem dX12_bar_10 : decode cX12_bar 10 = .ok (.iload_n 2, 1) := by decide +kernel
theorem dX12_bar_11 : decode cX12_bar 11 = .ok (.invokevirtual 53, 3) := by decide +kernel
