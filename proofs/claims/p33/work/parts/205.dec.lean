theorem dX4_flawOf_0 : decode cX4_flawOf 0 = .ok (.iload_n 2, 1) := by decide +kernel
theorem dX4_flawOf_1 : decode cX4_flawOf 1 = .ok (.ifCond .lt 18, 3) := by decide +kernel
theorem dX4_flawOf_4 : decode cX4_flawOf 4 = .ok (.iload_n 2, 1) := by decide +kernel
theorem dX4_flawOf_5 : decode cX4_flawOf 5 = .ok (.aload_n 3, 1) := by decide +kernel
theorem dX4_flawOf_6 : decode cX4_flawOf 6 = .ok (.arraylength, 1) := by decide +kernel
theorem dX4_flawOf_7 : decode cX4_flawOf 7 = .ok (.if_icmp .ge 12, 3) := by decide +kernel
theorem dX4_flawOf_10 : decode cX4_flawOf 10 = .ok (.aload_n 0, 1) := by decide +kernel
theorem dX4_flawOf_11 : decode cX4_flawOf 11 = .ok (.iload_n 1, 1) := by decide +kernel
theorem dX4_flawOf_12 : decode cX4_flawOf 12 = .ok (.iload_n 2, 1) := by decide +kernel
theorem dX4_flawOf_13 : decode cX4_flawOf 13 = .ok (.invokevirtual 29, 3) := by decide +kernel
theorem dX4_flawOf_16 : decode cX4_flawOf 16 = .ok (.ifCond .ne 5, 3) := by decide +kernel
theorem dX4_flawOf_19 : decode cX4_flawOf 19 = .ok (.iconst 1, 1) := by decide +kernel
theorem dX4_flawOf_20 : decode cX4_flawOf 20 = .ok (.ireturn, 1) := by decide +kernel
theorem dX4_flawOf_21 : decode cX4_flawOf 21 = .ok (.aload_n 3, 1) := by decide +kernel
theorem dX4_flawOf_22 : decode cX4_flawOf 22 = .ok (.iload_n 2, 1) := by decide +kernel
theorem dX4_flawOf_23 : decode cX4_flawOf 23 = .ok (.aaload, 1) := by decide +kernel
theorem dX4_flawOf_24 : decode cX4_flawOf 24 = .ok (.astore 5, 2) := by decide +kernel
theorem dX4_flawOf_26 : decode cX4_flawOf 26 = .ok (.aload_n 0, 1) := by decide +kernel
theorem dX4_flawOf_27 : decode cX4_flawOf 27 = .ok (.iload_n 1, 1) := by decide +kernel
theorem dX4_flawOf_28 : decode cX4_flawOf 28 = .ok (.iload_n 2, 1) := by decide +kernel
theorem dX4_flawOf_29 : decode cX4_flawOf 29 = .ok (.aload 4, 2) := by decide +kernel
theorem dX4_flawOf_31 : decode cX4_flawOf 31 = .ok (.invokevirtual 33, 3) := by decide +kernel
theorem dX4_flawOf_34 : decode cX4_flawOf 34 = .ok (.istore 6, 2) := by decide +kernel
theorem dX4_flawOf_36 : decode cX4_flawOf 36 = .ok (.iload 6, 2) := by decide +kernel
theorem dX4_flawOf_38 : decode cX4_flawOf 38 = .ok (.aload 5, 2) := by decide +kernel
theorem dX4_flawOf_40 : decode cX4_flawOf 40 = .ok (.iconst 0, 1) := by decide +kernel
theorem dX4_flawOf_41 : decode cX4_flawOf 41 = .ok (.iaload, 1) := by decide +kernel
theorem dX4_flawOf_42 : decode cX4_flawOf 42 = .ok (.if_icmp .ge 5, 3) := by decide +kernel
theorem dX4_flawOf_45 : decode cX4_flawOf 45 = .ok (.iconst 2, 1) := by decide +kernel
theorem dX4_flawOf_46 : decode cX4_flawOf 46 = .ok (.ireturn, 1) := by decide +kernel
theorem dX4_flawOf_47 : decode cX4_flawOf 47 = .ok (.iload 6, 2) := by decide +kernel
theorem dX4_flawOf_49 : decode cX4_flawOf 49 = .ok (.aload 5, 2) := by decide +kernel
theorem dX4_flawOf_51 : decode cX4_flawOf 51 = .ok (.iconst 1, 1) := by decide +kernel
theorem dX4_flawOf_52 : decode cX4_flawOf 52 = .ok (.iaload, 1) := by decide +kernel
theorem dX4_flawOf_53 : decode cX4_flawOf 53 = .ok (.if_icmp .le 5, 3) := by decide +kernel
theorem dX4_flawOf_56 : decode cX4_flawOf 56 = .ok (.iconst 3, 1) := by decide +kernel
theorem dX4_flawOf_57 : decode cX4_flawOf 57 = .ok (.ireturn, 1) := by decide +kernel
theorem dX4_flawOf_58 : decode cX4_flawOf 58 = .ok (.aload 5, 2) := by decide +kernel
theorem dX4_flawOf_60 : decode cX4_flawOf 60 = .ok (.iconst 2, 1) := by decide +kernel
theorem dX4_flawOf_61 : decode cX4_flawOf 61 = .ok (.iaload, 1) := by decide +kernel
theorem dX4_flawOf_62 : decode cX4_flawOf 62 = .ok (.aload_n 0, 1) := by decide +kernel
theorem dX4_flawOf_63 : decode cX4_flawOf 63 = .ok (.iload_n 1, 1) := by decide +kernel
theorem dX4_flawOf_64 : decode cX4_flawOf 64 = .ok (.iload_n 2, 1) := by decide +kernel
theorem dX4_flawOf_65 : decode cX4_flawOf 65 = .ok (.aload 4, 2) := by decide +kernel
theorem dX4_flawOf_67 : decode cX4_flawOf 67 = .ok (.invokevirtual 37, 3) := by decide +kernel
theorem dX4_flawOf_70 : decode cX4_flawOf 70 = .ok (.iconst (-1), 1) := by decide +kernel
theorem dX4_flawOf_71 : decode cX4_flawOf 71 = .ok (.ixor, 1) := by decide +kernel
theorem dX4_flawOf_72 : decode cX4_flawOf 72 = .ok (.iand, 1) := by decide +kernel
theorem dX4_flawOf_73 : decode cX4_flawOf 73 = .ok (.ifCond .eq 5, 3) := by decide +kernel
theorem dX4_flawOf_76 : decode cX4_flawOf 76 = .ok (.iconst 4, 1) := by decide +kernel
theorem dX4_flawOf_77 : decode cX4_flawOf 77 = .ok (.ireturn, 1) := by decide +kernel
theorem dX4_flawOf_78 : decode cX4_flawOf 78 = .ok (.aload_n 0, 1) := by decide +kernel
theorem dX4_flawOf_79 : decode cX4_flawOf 79 = .ok (.iload_n 1, 1) := by decide +kernel
theorem dX4_flawOf_80 : decode cX4_flawOf 80 = .ok (.iload_n 2, 1) := by decide +kernel
theorem dX4_flawOf_81 : decode cX4_flawOf 81 = .ok (.aload 4, 2) := by decide +kernel
theorem dX4_flawOf_83 : decode cX4_flawOf 83 = .ok (.invokevirtual 40, 3) := by decide +kernel
theorem dX4_flawOf_86 : decode cX4_flawOf 86 = .ok (.aload 5, 2) := by decide +kernel
theorem dX4_flawOf_88 : decode cX4_flawOf 88 = .ok (.iconst 3, 1) := by decide +kernel
theorem dX4_flawOf_89 : decode cX4_flawOf 89 = .ok (.iaload, 1) := by decide +kernel
theorem dX4_flawOf_90 : decode cX4_flawOf 90 = .ok (.if_icmp .le 5, 3) := by decide +kernel
theorem dX4_flawOf_93 : decode cX4_flawOf 93 = .ok (.iconst 5, 1) := by decide +kernel
theorem dX4_flawOf_94 : decode cX4_flawOf 94 = .ok (.ireturn, 1) := by decide +kernel
theorem dX4_flawOf_95 : decode cX4_flawOf 95 = .ok (.aload 5, 2) := by decide +kernel
theorem dX4_flawOf_97 : decode cX4_flawOf 97 = .ok (.iconst 4, 1) := by decide +kernel
theorem dX4_flawOf_98 : decode cX4_flawOf 98 = .ok (.iaload, 1) := by decide +kernel
theorem dX4_flawOf_99 : decode cX4_flawOf 99 = .ok (.iconst 1, 1) := by decide +kernel
theorem dX4_flawOf_100 : decode cX4_flawOf 100 = .ok (.if_icmp .ne 17, 3) := by decide +kernel
theorem dX4_flawOf_103 : decode cX4_flawOf 103 = .ok (.aload_n 0, 1) := by decide +kernel
theorem dX4_flawOf_104 : decode cX4_flawOf 104 = .ok (.iload_n 1, 1) := by decide +kernel
theorem dX4_flawOf_105 : decode cX4_flawOf 105 = .ok (.iload_n 2, 1) := by decide +kernel
theorem dX4_flawOf_106 : decode cX4_flawOf 106 = .ok (.invokevirtual 43, 3) := by decide +kernel
theorem dX4_flawOf_109 : decode cX4_flawOf 109 = .ok (.ifCond .eq 8, 3) := by decide +kernel
theorem dX4_flawOf_112 : decode cX4_flawOf 112 = .ok (.bipush 6, 2) := by decide +kernel
theorem dX4_flawOf_114 : decode cX4_flawOf 114 = .ok (.goto 4, 3) := by decide +kernel
theorem dX4_flawOf_117 : decode cX4_flawOf 117 = .ok (.iconst 0, 1) := by decide +kernel
theorem dX4_flawOf_118 : decode cX4_flawOf 118 = .ok (.ireturn, 1) := by decide +kernel
set_option maxRecDepth 20000 in
theorem ggX4_minutesOf_X4_workAt : GoodIn wsX4_minutesOf wsX4_workAt := goodIn_r _ [5, 6, 18] (by decide +kernel) (by decide +kernel)
set_option maxRecDepth 20000 in
theorem gX4_minutesOf_X4_workAt : GoodIn wsX4_minutesOf (wsV RX4 25 RX4 yX4_workAt wsX4_workAt) := goodIn_app (goodIn_of _ (by decide +kernel)) ggX4_minutesOf_X4_workAt
set_option maxRecDepth 20000 in
theorem ggX4_minutesOf_X10_minutesOf : GoodIn wsX4_minutesOf wsX10_minutesOf := goodIn_r _ [11, 12, 13, 14, 15, 10, 16, 17, 19, 20, 21, 22] (by decide +kernel) (by decide +kernel)
set_option maxRecDepth 20000 in
theorem gX4_minutesOf_X10_minutesOf : GoodIn wsX4_minutesOf (wsV RX4 47 RX10 yX10_minutesOf wsX10_minutesOf) := goodIn_app (goodIn_of _ (by decide +kernel)) ggX4_minutesOf_X10_minutesOf
theorem dX4_minutesOf_0 : decode cX4_minutesOf 0 = .ok (.iconst 0, 1) := by decide +kernel
theorem dX4_minutesOf_1 : decode cX4_minutesOf 1 = .ok (.istore 4, 2) := by decide +kernel
theorem dX4_minutesOf_3 : decode cX4_minutesOf 3 = .ok (.iconst 0, 1) := by decide +kernel
theorem dX4_minutesOf_4 : decode cX4_minutesOf 4 = .ok (.istore 5, 2) := by decide +kernel
theorem dX4_minutesOf_6 : decode cX4_minutesOf 6 = .ok (.iload 5, 2) := by decide +kernel
theorem dX4_minutesOf_8 : decode cX4_minutesOf 8 = .ok (.iconst 4, 1) := by decide +kernel
theorem dX4_minutesOf_9 : decode cX4_minutesOf 9 = .ok (.if_icmp .ge 26, 3) := by decide +kernel
theorem dX4_minutesOf_12 : decode cX4_minutesOf 12 = .ok (.iload 4, 2) := by decide +kernel
theorem dX4_minutesOf_14 : decode cX4_minutesOf 14 = .ok (.aload_n 3, 1) := by decide +kernel
theorem dX4_minutesOf_15 : decode cX4_minutesOf 15 = .ok (.aload_n 0, 1) := by decide +kernel
theorem dX4_minutesOf_16 : decode cX4_minutesOf 16 = .ok (.iload_n 1, 1) := by decide +kernel
theorem dX4_minutesOf_17 : decode cX4_minutesOf 17 = .ok (.iload_n 2, 1) := by decide +kernel
theorem dX4_minutesOf_18 : decode cX4_minutesOf 18 = .ok (.iload 5, 2) := by decide +kernel
theorem dX4_minutesOf_20 : decode cX4_minutesOf 20 = .ok (.invokevirtual 25, 3) := by decide +kernel
theorem dX4_minutesOf_23 : decode cX4_minutesOf 23 = .ok (.invokevirtual 47, 3) := by decide +kernel
theorem dX4_minutesOf_26 : decode cX4_minutesOf 26 = .ok (.iadd, 1) := by decide +kernel
theorem dX4_minutesOf_27 : decode cX4_minutesOf 27 = .ok (.istore 4, 2) := by decide +kernel
theorem dX4_minutesOf_29 : decode cX4_minutesOf 29 = .ok (.iinc 5 1, 3) := by decide +kernel
theorem dX4_minutesOf_32 : decode cX4_minutesOf 32 = .ok (.goto (-26), 3) := by decide +kernel
theorem dX4_minutesOf_35 : decode cX4_minutesOf 35 = .ok (.iload 4, 2) := by decide +kernel
theorem dX4_minutesOf_37 : decode cX4_minutesOf 37 = .ok (.ireturn, 1) := by decide +kernel
set_option maxRecDepth 20000 in
theorem ggX4_erasOf_X4_workAt : GoodIn wsX4_erasOf wsX4_workAt := goodIn_r _ [5, 6, 18] (by decide +kernel) (by decide +kernel)
set_option maxRecDepth 20000 in
theorem gX4_erasOf_X4_workAt : GoodIn wsX4_erasOf (wsV RX4 25 RX4 yX4_workAt wsX4_workAt) := goodIn_app (goodIn_of _ (by decide +kernel)) ggX4_erasOf_X4_workAt
set_option maxRecDepth 20000 in
theorem ggX4_erasOf_X10_eraOf : GoodIn wsX4_erasOf wsX10_eraOf := goodIn_r _ [11, 12, 13, 14, 15, 10, 16, 17, 19, 20, 21, 22] (by decide +kernel) (by decide +kernel)
set_option maxRecDepth 20000 in
theorem gX4_erasOf_X10_eraOf : GoodIn wsX4_erasOf (wsV RX4 52 RX10 yX10_eraOf wsX10_eraOf) := goodIn_app (goodIn_of _ (by decide +kernel)) ggX4_erasOf_X10_eraOf
theorem dX4_erasOf_0 : decode cX4_erasOf 0 = .ok (.iconst 0, 1) := by decide +kernel
theorem dX4_erasOf_1 : decode cX4_erasOf 1 = .ok (.istore 4, 2) := by decide +kernel
theorem dX4_erasOf_3 : decode cX4_erasOf 3 = .ok (.iconst 0, 1) := by decide +kernel
theorem dX4_erasOf_4 : decode cX4_erasOf 4 = .ok (.istore 5, 2) := by decide +kernel
theorem dX4_erasOf_6 : decode cX4_erasOf 6 = .ok (.iload 5, 2) := by decide +kernel
theorem dX4_erasOf_8 : decode cX4_erasOf 8 = .ok (.iconst 4, 1) := by decide +kernel
theorem dX4_erasOf_9 : decode cX4_erasOf 9 = .ok (.if_icmp .ge 38, 3) := by decide +kernel
theorem dX4_erasOf_12 : decode cX4_erasOf 12 = .ok (.aload_n 3, 1) := by decide +kernel
theorem dX4_erasOf_13 : decode cX4_erasOf 13 = .ok (.aload_n 0, 1) := by decide +kernel
theorem dX4_erasOf_14 : decode cX4_erasOf 14 = .ok (.iload_n 1, 1) := by decide +kernel
theorem dX4_erasOf_15 : decode cX4_erasOf 15 = .ok (.iload_n 2, 1) := by decide +kernel
theorem dX4_erasOf_16 : decode cX4_erasOf 16 = .ok (.iload 5, 2) := by decide +kernel
theorem dX4_erasOf_18 : decode cX4_erasOf 18 = .ok (.invokevirtual 25, 3) := by decide +kernel
theorem dX4_erasOf_21 : decode cX4_erasOf 21 = .ok (.invokevirtual 52, 3) := by decide +kernel
theorem dX4_erasOf_24 : decode cX4_erasOf 24 = .ok (.istore 6, 2) := by decide +kernel
theorem dX4_erasOf_26 : decode cX4_erasOf 26 = .ok (.iload 6, 2) := by decide +kernel
theorem dX4_erasOf_28 : decode cX4_erasOf 28 = .ok (.iconst (-1), 1) := by decide +kernel
theorem dX4_erasOf_29 : decode cX4_erasOf 29 = .ok (.if_icmp .eq 12, 3) := by decide +kernel
theorem dX4_erasOf_32 : decode cX4_erasOf 32 = .ok (.iload 4, 2) := by decide +kernel
theorem dX4_erasOf_34 : decode cX4_erasOf 34 = .ok (.iconst 1, 1) := by decide +kernel
theorem dX4_erasOf_35 : decode cX4_erasOf 35 = .ok (.iload 6, 2) := by decide +kernel
theorem dX4_erasOf_37 : decode cX4_erasOf 37 = .ok (.ishl, 1) := by decide +kernel
theorem dX4_erasOf_38 : decode cX4_erasOf 38 = .ok (.ior, 1) := by decide +kernel
theorem dX4_erasOf_39 : decode cX4_erasOf 39 = .ok (.istore 4, 2) := by decide +kernel
theorem dX4_erasOf_41 : decode cX4_erasOf 41 = .ok (.iinc 5 1, 3) := by decide +kernel
theorem dX4_erasOf_44 : decode cX4_erasOf 44 = .ok (.goto (-38), 3) := by decide +kernel
theorem dX4_erasOf_47 : decode cX4_erasOf 47 = .ok (.iload 4, 2) := by decide +kernel
theorem dX4_erasOf_49 : decode cX4_erasOf 49 = .ok (.ireturn, 1) := by decide +kernel
set_option maxRecDepth 20000 in
theorem ggX4_mostOfOneComposer_X4_workAt : GoodIn wsX4_mostOfOneComposer wsX4_workAt := goodIn_r _ [9, 10, 22] (by decide +kernel) (by decide +kernel)
set_option maxRecDepth 20000 in
theorem gX4_mostOfOneComposer_X4_workAt : GoodIn wsX4_mostOfOneComposer (wsV RX4 25 RX4 yX4_workAt wsX4_workAt) := goodIn_app (goodIn_of _ (by decide +kernel)) ggX4_mostOfOneComposer_X4_workAt
set_option maxRecDepth 20000 in
theorem ggX4_mostOfOneComposer_X10_composerOf : GoodIn wsX4_mostOfOneComposer wsX10_composerOf := goodIn_r _ [15, 16, 17, 18, 19, 14, 20, 21, 23, 24, 25, 26] (by decide +kernel) (by decide +kernel)
set_option maxRecDepth 20000 in
theorem gX4_mostOfOneComposer_X10_composerOf : GoodIn wsX4_mostOfOneComposer (wsV RX4 55 RX10 yX10_composerOf wsX10_composerOf) := goodIn_app (goodIn_of _ (by decide +kernel)) ggX4_mostOfOneComposer_X10_composerOf
theorem dX4_mostOfOneComposer_0 : decode cX4_mostOfOneComposer 0 = .ok (.iconst 0, 1) := by decide +kernel
theorem dX4_mostOfOneComposer_1 : decode cX4_mostOfOneComposer 1 = .ok (.istore 4, 2) := by decide +kernel
theorem dX4_mostOfOneComposer_3 : decode cX4_mostOfOneComposer 3 = .ok (.iconst 0, 1) := by decide +kernel
theorem dX4_mostOfOneComposer_4 : decode cX4_mostOfOneComposer 4 = .ok (.istore 5, 2) := by decide +kernel
theorem dX4_mostOfOneComposer_6 : decode cX4_mostOfOneComposer 6 = .ok (.iload 5, 2) := by decide +kernel
theorem dX4_mostOfOneComposer_8 : decode cX4_mostOfOneComposer 8 = .ok (.bipush 10, 2) := by decide +kernel
theorem dX4_mostOfOneComposer_10 : decode cX4_mostOfOneComposer 10 = .ok (.if_icmp .ge 56, 3) := by decide +kernel
theorem dX4_mostOfOneComposer_13 : decode cX4_mostOfOneComposer 13 = .ok (.iconst 0, 1) := by decide +kernel
theorem dX4_mostOfOneComposer_14 : decode cX4_mostOfOneComposer 14 = .ok (.istore 6, 2) := by decide +kernel
theorem dX4_mostOfOneComposer_16 : decode cX4_mostOfOneComposer 16 = .ok (.iconst 0, 1) := by decide +kernel
theorem dX4_mostOfOneComposer_17 : decode cX4_mostOfOneComposer 17 = .ok (.istore 7, 2) := by decide +kernel
theorem dX4_mostOfOneComposer_19 : decode cX4_mostOfOneComposer 19 = .ok (.iload 7, 2) := by decide +kernel
theorem dX4_mostOfOneComposer_21 : decode cX4_mostOfOneComposer 21 = .ok (.iconst 4, 1) := by decide +kernel
theorem dX4_mostOfOneComposer_22 : decode cX4_mostOfOneComposer 22 = .ok (.if_icmp .ge 29, 3) := by decide +kernel
theorem dX4_mostOfOneComposer_25 : decode cX4_mostOfOneComposer 25 = .ok (.aload_n 3, 1) := by decide +kernel
theorem dX4_mostOfOneComposer_26 : decode cX4_mostOfOneComposer 26 = .ok (.aload_n 0, 1) := by decide +kernel
theorem dX4_mostOfOneComposer_27 : decode cX4_mostOfOneComposer 27 = .ok (.iload_n 1, 1) := by decide +kernel
theorem dX4_mostOfOneComposer_28 : decode cX4_mostOfOneComposer 28 = .ok (.iload_n 2, 1) := by decide +kernel
theorem dX4_mostOfOneComposer_29 : decode cX4_mostOfOneComposer 29 = .ok (.iload 7, 2) := by decide +kernel
theorem dX4_mostOfOneComposer_31 : decode cX4_mostOfOneComposer 31 = .ok (.invokevirtual 25, 3) := by decide +kernel
theorem dX4_mostOfOneComposer_34 : decode cX4_mostOfOneComposer 34 = .ok (.invokevirtual 55, 3) := by decide +kernel
theorem dX4_mostOfOneComposer_37 : decode cX4_mostOfOneComposer 37 = .ok (.iload 5, 2) := by decide +kernel
theorem dX4_mostOfOneComposer_39 : decode cX4_mostOfOneComposer 39 = .ok (.if_icmp .ne 6, 3) := by decide +kernel
theorem dX4_mostOfOneComposer_42 : decode cX4_mostOfOneComposer 42 = .ok (.iinc 6 1, 3) := by decide +kernel
theorem dX4_mostOfOneComposer_45 : decode cX4_mostOfOneComposer 45 = .ok (.iinc 7 1, 3) := by decide +kernel
theorem dX4_mostOfOneComposer_48 : decode cX4_mostOfOneComposer 48 = .ok (.goto (-29), 3) := by decide +kernel
theorem dX4_mostOfOneComposer_51 : decode cX4_mostOfOneComposer 51 = .ok (.iload 4, 2) := by decide +kernel
theorem dX4_mostOfOneComposer_53 : decode cX4_mostOfOneComposer 53 = .ok (.iload 6, 2) := by decide +kernel
theorem dX4_mostOfOneComposer_55 : decode cX4_mostOfOneComposer 55 = .ok (.invokestatic 58, 3) := by decide +kernel
theorem dX4_mostOfOneComposer_58 : decode cX4_mostOfOneComposer 58 = .ok (.istore 4, 2) := by decide +kernel
theorem dX4_mostOfOneComposer_60 : decode cX4_mostOfOneComposer 60 = .ok (.iinc 5 1, 3) := by decide +kernel
theorem dX4_mostOfOneComposer_63 : decode cX4_mostOfOneComposer 63 = .ok (.goto (-57), 3) := by decide +kernel
theorem dX4_mostOfOneComposer_66 : decode cX4_mostOfOneComposer 66 = .ok (.iload 4, 2) := by decide +kernel
theorem dX4_mostOfOneComposer_68 : decode cX4_mostOfOneComposer 68 = .ok (.ireturn, 1) := by decide +kernel
set_option maxRecDepth 20000 in
theorem ggX4_repeatsEarlierRound_X4_workAt : GoodIn wsX4_repeatsEarlierRound wsX4_workAt := goodIn_r _ [5, 6, 11] (by decide +kernel) (by decide +kernel)
set_option maxRecDepth 20000 in
theorem gX4_repeatsEarlierRound_X4_workAt : GoodIn wsX4_repeatsEarlierRound (wsV RX4 25 RX4 yX4_workAt wsX4_workAt) := goodIn_app (goodIn_of _ (by decide +kernel)) ggX4_repeatsEarlierRound_X4_workAt
set_option maxRecDepth 20000 in
theorem ggX4_repeatsEarlierRound_X4_contains : GoodIn wsX4_repeatsEarlierRound wsX4_contains := goodIn_r _ [10, 1, 2, 3, 4, 5, 6, 11] (by decide +kernel) (by decide +kernel)
set_option maxRecDepth 20000 in
theorem gX4_repeatsEarlierRound_X4_contains : GoodIn wsX4_repeatsEarlierRound (wsV RX4 63 RX4 yX4_contains wsX4_contains) := goodIn_app (goodIn_of _ (by decide +kernel)) ggX4_repeatsEarlierRound_X4_contains
theorem dX4_repeatsEarlierRound_0 : decode cX4_repeatsEarlierRound 0 = .ok (.iconst 0, 1) := by decide +kernel
theorem dX4_repeatsEarlierRound_1 : decode cX4_repeatsEarlierRound 1 = .ok (.istore_n 3, 1) := by decide +kernel
theorem dX4_repeatsEarlierRound_2 : decode cX4_repeatsEarlierRound 2 = .ok (.iload_n 3, 1) := by decide +kernel
theorem dX4_repeatsEarlierRound_3 : decode cX4_repeatsEarlierRound 3 = .ok (.iload_n 2, 1) := by decide +kernel
theorem dX4_repeatsEarlierRound_4 : decode cX4_repeatsEarlierRound 4 = .ok (.if_icmp .ge 53, 3) := by decide +kernel
theorem dX4_repeatsEarlierRound_7 : decode cX4_repeatsEarlierRound 7 = .ok (.iconst 0, 1) := by decide +kernel
theorem dX4_repeatsEarlierRound_8 : decode cX4_repeatsEarlierRound 8 = .ok (.istore 4, 2) := by decide +kernel
theorem dX4_repeatsEarlierRound_10 : decode cX4_repeatsEarlierRound 10 = .ok (.iload 4, 2) := by decide +kernel
theorem dX4_repeatsEarlierRound_12 : decode cX4_repeatsEarlierRound 12 = .ok (.iconst 4, 1) := by decide +kernel
theorem dX4_repeatsEarlierRound_13 : decode cX4_repeatsEarlierRound 13 = .ok (.if_icmp .ge 38, 3) := by decide +kernel
theorem dX4_repeatsEarlierRound_16 : decode cX4_repeatsEarlierRound 16 = .ok (.aload_n 0, 1) := by decide +kernel
theorem dX4_repeatsEarlierRound_17 : decode cX4_repeatsEarlierRound 17 = .ok (.iload_n 1, 1) := by decide +kernel
theorem dX4_repeatsEarlierRound_18 : decode cX4_repeatsEarlierRound 18 = .ok (.iload_n 2, 1) := by decide +kernel
theorem dX4_repeatsEarlierRound_19 : decode cX4_repeatsEarlierRound 19 = .ok (.iload 4, 2) := by decide +kernel
theorem dX4_repeatsEarlierRound_21 : decode cX4_repeatsEarlierRound 21 = .ok (.invokevirtual 25, 3) := by decide +kernel
theorem dX4_repeatsEarlierRound_24 : decode cX4_repeatsEarlierRound 24 = .ok (.istore 5, 2) := by decide +kernel
theorem dX4_repeatsEarlierRound_26 : decode cX4_repeatsEarlierRound 26 = .ok (.iload 5, 2) := by decide +kernel
theorem dX4_repeatsEarlierRound_28 : decode cX4_repeatsEarlierRound 28 = .ok (.iconst (-1), 1) := by decide +kernel
theorem dX4_repeatsEarlierRound_29 : decode cX4_repeatsEarlierRound 29 = .ok (.if_icmp .eq 16, 3) := by decide +kernel
theorem dX4_repeatsEarlierRound_32 : decode cX4_repeatsEarlierRound 32 = .ok (.aload_n 0, 1) := by decide +kernel
theorem dX4_repeatsEarlierRound_33 : decode cX4_repeatsEarlierRound 33 = .ok (.iload_n 1, 1) := by decide +kernel
theorem dX4_repeatsEarlierRound_34 : decode cX4_repeatsEarlierRound 34 = .ok (.iload_n 3, 1) := by decide +kernel
theorem dX4_repeatsEarlierRound_35 : decode cX4_repeatsEarlierRound 35 = .ok (.iload 5, 2) := by decide +kernel
theorem dX4_repeatsEarlierRound_37 : decode cX4_repeatsEarlierRound 37 = .ok (.invokevirtual 63, 3) := by decide +kernel
theorem dX4_repeatsEarlierRound_40 : decode cX4_repeatsEarlierRound 40 = .ok (.ifCond .eq 5, 3) := by decide +kernel
theorem dX4_repeatsEarlierRound_43 : decode cX4_repeatsEarlierRound 43 = .ok (.iconst 1, 1) := by decide +kernel
theorem dX4_repeatsEarlierRound_44 : decode cX4_repeatsEarlierRound 44 = .ok (.ireturn, 1) := by decide +kernel
theorem dX4_repeatsEarlierRound_45 : decode cX4_repeatsEarlierRound 45 = .ok (.iinc 4 1, 3) := by decide +kernel
theorem dX4_repeatsEarlierRound_48 : decode cX4_repeatsEarlierRound 48 = .ok (.goto (-38), 3) := by decide +kernel
theorem dX4_repeatsEarlierRound_51 : decode cX4_repeatsEarlierRound 51 = .ok (.iinc 3 1, 3) := by decide +kernel
theorem dX4_repeatsEarlierRound_54 : decode cX4_repeatsEarlierRound 54 = .ok (.goto (-52), 3) := by decide +kernel
theorem dX4_repeatsEarlierRound_57 : decode cX4_repeatsEarlierRound 57 = .ok (.iconst 0, 1) := by decide +kernel
theorem dX4_repeatsEarlierRound_58 : decode cX4_repeatsEarlierRound 58 = .ok (.ireturn, 1) := by decide +kernel
set_option maxRecDepth 20000 in
theorem ggX4_contains_X4_workAt : GoodIn wsX4_contains wsX4_workAt := goodIn_r _ [5, 6, 7] (by decide +kernel) (by decide +kernel)
set_option maxRecDepth 20000 in
theorem gX4_contains_X4_workAt : GoodIn wsX4_contains (wsV RX4 25 RX4 yX4_workAt wsX4_workAt) := goodIn_app (goodIn_of _ (by decide +kernel)) ggX4_contains_X4_workAt
theorem dX4_contains_0 : decode cX4_contains 0 = .ok (.iconst 0, 1) := by decide +kernel
theorem dX4_contains_1 : decode cX4_contains 1 = .ok (.istore 4, 2) := by decide +kernel
theorem dX4_contains_3 : decode cX4_contains 3 = .ok (.iload 4, 2) := by decide +kernel
theorem dX4_contains_5 : decode cX4_contains 5 = .ok (.iconst 4, 1) := by decide +kernel
theorem dX4_contains_6 : decode cX4_contains 6 = .ok (.if_icmp .ge 23, 3) := by decide +kernel
theorem dX4_contains_9 : decode cX4_contains 9 = .ok (.aload_n 0, 1) := by decide +kernel
theorem dX4_contains_10 : decode cX4_contains 10 = .ok (.iload_n 1, 1) := by decide +kernel
theorem dX4_contains_11 : decode cX4_contains 11 = .ok (.iload_n 2, 1) := by decide +kernel
theorem dX4_contains_12 : decode cX4_contains 12 = .ok (.iload 4, 2) := by decide +kernel
theorem dX4_contains_14 : decode cX4_contains 14 = .ok (.invokevirtual 25, 3) := by decide +kernel
theorem dX4_contains_17 : decode cX4_contains 17 = .ok (.iload_n 3, 1) := by decide +kernel
theorem dX4_contains_18 : decode cX4_contains 18 = .ok (.if_icmp .ne 5, 3) := by decide +kernel
theorem dX4_contains_21 : decode cX4_contains 21 = .ok (.iconst 1, 1) := by decide +kernel
theorem dX4_contains_22 : decode cX4_contains 22 = .ok (.ireturn, 1) := by decide +kernel
theorem dX4_contains_23 : decode cX4_contains 23 = .ok (.iinc 4 1, 3) := by decide +kernel
theorem dX4_contains_26 : decode cX4_contains 26 = .ok (.goto (-23), 3) := by decide +kernel
theorem dX4_contains_29 : decode cX4_contains 29 = .ok (.iconst 0, 1) := by decide +kernel
theorem dX4_contains_30 : decode cX4_contains 30 = .ok (.ireturn, 1) := by decide +kernel
set_option maxRecDepth 20000 in
theorem ggX4_copyFrom_X11_copyRow : GoodIn wsX4_copyFrom wsX11_copyRow := goodIn_r _ [4, 5, 6, 7, 8, 9, 10, 11, 12] (by decide +kernel) (by decide +kernel)
set_option maxRecDepth 20000 in
theorem gX4_copyFrom_X11_copyRow_n67 : GoodIn wsX4_copyFrom (wsX11_copyRow) := ggX4_copyFrom_X11_copyRow
theorem dX4_copyFrom_0 : decode cX4_copyFrom 0 = .ok (.aload_n 1, 1) := by decide +kernel
theorem dX4_copyFrom_1 : decode cX4_copyFrom 1 = .ok (.getfield 9, 3) := by decide +kernel
theorem dX4_copyFrom_4 : decode cX4_copyFrom 4 = .ok (.aload_n 0, 1) := by decide +kernel
theorem dX4_copyFrom_5 : decode cX4_copyFrom 5 = .ok (.getfield 9, 3) := by decide +kernel
theorem dX4_copyFrom_8 : decode cX4_copyFrom 8 = .ok (.invokestatic 67, 3) := by decide +kernel
theorem dX4_copyFrom_11 : decode cX4_copyFrom 11 = .ok (.return_, 1) := by decide +kernel
set_option maxRecDepth 20000 in
theorem ggX5_init_X0_init : GoodIn wsX5_init wsX0_init := goodIn_r _ [10, 11, 2, 3, 12, 13, 14, 15, 16, 17, 18, 19, 20, 21, 22, 23, 24, 25, 26, 27, 28, 29, 30, 31, 32, 33, 34, 35, 36, 37, 38, 39, 40, 41, 42, 43, 44, 45, 46, 47, 48, 49, 50, 51, 52, 53, 54, 55, 56, 57, 58, 59, 60, 61, 62, 63, 64, 65, 66, 67, 68, 69, 70, 71, 72, 73, 74, 75, 76, 77, 78, 79, 80, 81, 82, 83, 84, 85, 86, 87, 88, 89, 90, 91, 92, 93, 94, 95, 96, 97, 98, 99, 100, 101, 102, 103, 104, 105, 106, 107, 108, 109, 110, 111, 112, 113, 114, 115, 116, 117, 118, 119, 120, 121, 122, 125, 126, 127, 128, 129, 130, 131, 132, 133, 134, 135, 136, 137, 138, 139, 140, 141, 142, 143, 144, 145, 146, 147, 148, 149, 150, 151, 152, 153, 154, 155, 156, 157, 158, 159, 160, 161, 162, 163] (by decide +kernel) (by decide +kernel)
set_option maxRecDepth 20000 in
theorem gX5_init_X0_init : GoodIn wsX5_init (wsX0_init) := ggX5_init_X0_init
theorem dX5_init_0 : decode cX5_init 0 = .ok (.aload_n 0, 1) := by decide +kernel
theorem dX5_init_1 : decode cX5_init 1 = .ok (.invokespecial 3, 3) := by decide +kernel
theorem dX5_init_4 : decode cX5_init 4 = .ok (.aload_n 0, 1) := by decide +kernel
theorem dX5_init_5 : decode cX5_init 5 = .ok (.iconst 4, 1) := by decide +kernel
theorem dX5_init_6 : decode cX5_init 6 = .ok (.anewarray 9, 3) := by decide +kernel
theorem dX5_init_9 : decode cX5_init 9 = .ok (.putfield 11, 3) := by decide +kernel
theorem dX5_init_12 : decode cX5_init 12 = .ok (.iconst 0, 1) := by decide +kernel
theorem dX5_init_13 : decode cX5_init 13 = .ok (.istore_n 1, 1) := by decide +kernel
theorem dX5_init_14 : decode cX5_init 14 = .ok (.iload_n 1, 1) := by decide +kernel
theorem dX5_init_15 : decode cX5_init 15 = .ok (.iconst 4, 1) := by decide +kernel
theorem dX5_init_16 : decode cX5_init 16 = .ok (.if_icmp .ge 22, 3) := by decide +kernel
theorem dX5_init_19 : decode cX5_init 19 = .ok (.aload_n 0, 1) := by decide +kernel
theorem dX5_init_20 : decode cX5_init 20 = .ok (.getfield 11, 3) := by decide +kernel
theorem dX5_init_23 : decode cX5_init 23 = .ok (.iload_n 1, 1) := by decide +kernel
theorem dX5_init_24 : decode cX5_init 24 = .ok (.new 9, 3) := by decide +kernel
theorem dX5_init_27 : decode cX5_init 27 = .ok (.dup, 1) := by decide +kernel
theorem dX5_init_28 : decode cX5_init 28 = .ok (.invokespecial 17, 3) := by decide +kernel
theorem dX5_init_31 : decode cX5_init 31 = .ok (.aastore, 1) := by decide +kernel
theorem dX5_init_32 : decode cX5_init 32 = .ok (.iinc 1 1, 3) := by decide +kernel
theorem dX5_init_35 : decode cX5_init 35 = .ok (.goto (-21), 3) := by decide +kernel
theorem dX5_init_38 : decode cX5_init 38 = .ok (.return_, 1) := by decide +kernel
set_option maxRecDepth 20000 in
theorem ggX5_keep_X5_dropOldest : GoodIn wsX5_keep wsX5_dropOldest := goodIn_r _ [7, 2, 1, 94, 95] (by decide +kernel) (by decide +kernel)
set_option maxRecDepth 20000 in
theorem gX5_keep_X5_dropOldest : GoodIn wsX5_keep (wsV RX5 22 RX5 yX5_dropOldest wsX5_dropOldest) := goodIn_app (goodIn_of _ (by decide +kernel)) ggX5_keep_X5_dropOldest
set_option maxRecDepth 20000 in
theorem ggX5_keep_X0_copyFrom : GoodIn wsX5_keep wsX0_copyFrom := goodIn_r _ [12, 13, 14, 15, 16, 17, 18, 19, 20, 21, 22, 23, 24, 25, 26, 27, 28, 29, 30, 31, 32, 33, 34, 35, 36, 37, 38, 39, 40, 41, 42, 43, 44, 45, 46, 47, 48, 49, 50, 51, 52, 53, 54, 55, 56, 57, 58, 59, 60, 61, 62, 63, 64, 65, 66, 67, 68, 69, 70, 71, 72, 73, 74, 75, 76, 77, 78, 79, 80, 81, 82, 83, 84, 85, 86, 87, 88, 89, 90, 91, 92, 93, 96, 97, 98, 99, 100, 101, 102, 103, 104, 105, 106, 107, 108, 109, 110, 111, 112, 113, 114, 115, 116, 117, 118, 119, 120, 121, 122, 123, 124, 125, 126, 127, 128] (by decide +kernel) (by decide +kernel)
set_option maxRecDepth 20000 in
theorem gX5_keep_X0_copyFrom : GoodIn wsX5_keep (wsV RX5 25 RX0 yX0_copyFrom wsX0_copyFrom) := goodIn_app (goodIn_of _ (by decide +kernel)) ggX5_keep_X0_copyFrom
theorem dX5_keep_0 : decode cX5_keep 0 = .ok (.aload_n 0, 1) := by decide +kernel
theorem dX5_keep_1 : decode cX5_keep 1 = .ok (.getfield 18, 3) := by decide +kernel
theorem dX5_keep_4 : decode cX5_keep 4 = .ok (.iconst 4, 1) := by decide +kernel
theorem dX5_keep_5 : decode cX5_keep 5 = .ok (.if_icmp .lt 7, 3) := by decide +kernel
theorem dX5_keep_8 : decode cX5_keep 8 = .ok (.aload_n 0, 1) := by decide +kernel
theorem dX5_keep_9 : decode cX5_keep 9 = .ok (.invokevirtual 22, 3) := by decide +kernel
theorem dX5_keep_12 : decode cX5_keep 12 = .ok (.aload_n 0, 1) := by decide +kernel
theorem dX5_keep_13 : decode cX5_keep 13 = .ok (.getfield 11, 3) := by decide +kernel
theorem dX5_keep_16 : decode cX5_keep 16 = .ok (.aload_n 0, 1) := by decide +kernel
theorem dX5_keep_17 : decode cX5_keep 17 = .ok (.getfield 18, 3) := by decide +kernel
theorem dX5_keep_20 : decode cX5_keep 20 = .ok (.aaload, 1) := by decide +kernel
theorem dX5_keep_21 : decode cX5_keep 21 = .ok (.aload_n 1, 1) := by decide +kernel
theorem dX5_keep_22 : decode cX5_keep 22 = .ok (.invokevirtual 25, 3) := by decide +kernel
theorem dX5_keep_25 : decode cX5_keep 25 = .ok (.aload_n 0, 1) := by decide +kernel
theorem dX5_keep_26 : decode cX5_keep 26 = .ok (.dup, 1) := by decide +kernel
theorem dX5_keep_27 : decode cX5_keep 27 = .ok (.getfield 18, 3) := by decide +kernel
theorem dX5_keep_30 : decode cX5_keep 30 = .ok (.iconst 1, 1) := by decide +kernel
theorem dX5_keep_31 : decode cX5_keep 31 = .ok (.iadd, 1) := by decide +kernel
theorem dX5_keep_32 : decode cX5_keep 32 = .ok (.putfield 18, 3) := by decide +kernel
theorem dX5_keep_35 : decode cX5_keep 35 = .ok (.return_, 1) := by decide +kernel
theorem dX5_dropOldest_0 : decode cX5_dropOldest 0 = .ok (.aload_n 0, 1) := by decide +kernel
theorem dX5_dropOldest_1 : decode cX5_dropOldest 1 = .ok (.getfield 11, 3) := by decide +kernel
theorem dX5_dropOldest_4 : decode cX5_dropOldest 4 = .ok (.iconst 0, 1) := by decide +kernel
theorem dX5_dropOldest_5 : decode cX5_dropOldest 5 = .ok (.aaload, 1) := by decide +kernel
theorem dX5_dropOldest_6 : decode cX5_dropOldest 6 = .ok (.astore_n 1, 1) := by decide +kernel
theorem dX5_dropOldest_7 : decode cX5_dropOldest 7 = .ok (.iconst 1, 1) := by decide +kernel
theorem dX5_dropOldest_8 : decode cX5_dropOldest 8 = .ok (.istore_n 2, 1) := by decide +kernel
theorem dX5_dropOldest_9 : decode cX5_dropOldest 9 = .ok (.iload_n 2, 1) := by decide +kernel
theorem dX5_dropOldest_10 : decode cX5_dropOldest 10 = .ok (.iconst 4, 1) := by decide +kernel
theorem dX5_dropOldest_11 : decode cX5_dropOldest 11 = .ok (.if_icmp .ge 23, 3) := by decide +kernel
theorem dX5_dropOldest_14 : decode cX5_dropOldest 14 = .ok (.aload_n 0, 1) := by decide +kernel
theorem dX5_dropOldest_15 : decode cX5_dropOldest 15 = .ok (.getfield 11, 3) := by decide +kernel
theorem dX5_dropOldest_18 : decode cX5_dropOldest 18 = .ok (.iload_n 2, 1) := by decide +kernel
theorem dX5_dropOldest_19 : decode cX5_dropOldest 19 = .ok (.iconst 1, 1) := by decide +kernel
theorem dX5_dropOldest_20 : decode cX5_dropOldest 20 = .ok (.isub, 1) := by decide +kernel
theorem dX5_dropOldest_21 : decode cX5_dropOldest 21 = .ok (.aload_n 0, 1) := by decide +kernel
theorem dX5_dropOldest_22 : decode cX5_dropOldest 22 = .ok (.getfield 11, 3) := by decide +kernel
theorem dX5_dropOldest_25 : decode cX5_dropOldest 25 = .ok (.iload_n 2, 1) := by decide +kernel
theorem dX5_dropOldest_26 : decode cX5_dropOldest 26 = .ok (.aaload, 1) := by decide +kernel
theorem dX5_dropOldest_27 : decode cX5_dropOldest 27 = .ok (.aastore, 1) := by decide +kernel
theorem dX5_dropOldest_28 : decode cX5_dropOldest 28 = .ok (.iinc 2 1, 3) := by decide +kernel
theorem dX5_dropOldest_31 : decode cX5_dropOldest 31 = .ok (.goto (-22), 3) := by decide +kernel
theorem dX5_dropOldest_34 : decode cX5_dropOldest 34 = .ok (.aload_n 0, 1) := by decide +kernel
theorem dX5_dropOldest_35 : decode cX5_dropOldest 35 = .ok (.getfield 11, 3) := by decide +kernel
theorem dX5_dropOldest_38 : decode cX5_dropOldest 38 = .ok (.iconst 3, 1) := by decide +kernel
theorem dX5_dropOldest_39 : decode cX5_dropOldest 39 = .ok (.aload_n 1, 1) := by decide +kernel
theorem dX5_dropOldest_40 : decode cX5_dropOldest 40 = .ok (.aastore, 1) := by decide +kernel
theorem dX5_dropOldest_41 : decode cX5_dropOldest 41 = .ok (.aload_n 0, 1) := by decide +kernel
theorem dX5_dropOldest_42 : decode cX5_dropOldest 42 = .ok (.dup, 1) := by decide +kernel
theorem dX5_dropOldest_43 : decode cX5_dropOldest 43 = .ok (.getfield 18, 3) := by decide +kernel
theorem dX5_dropOldest_46 : decode cX5_dropOldest 46 = .ok (.iconst 1, 1) := by decide +kernel
theorem dX5_dropOldest_47 : decode cX5_dropOldest 47 = .ok (.isub, 1) := by decide +kernel
theorem dX5_dropOldest_48 : decode cX5_dropOldest 48 = .ok (.putfield 18, 3) := by decide +kernel
theorem dX5_dropOldest_51 : decode cX5_dropOldest 51 = .ok (.return_, 1) := by decide +kernel
set_option maxRecDepth 20000 in
theorem ggX5_restore_X0_copyFrom : GoodIn wsX5_restore wsX0_copyFrom := goodIn_r _ [7, 8, 9, 10, 11, 12, 13, 14, 15, 16, 17, 18, 19, 20, 21, 22, 23, 24, 25, 26, 27, 28, 29, 30, 31, 32, 33, 34, 35, 36, 37, 38, 39, 40, 41, 42, 43, 44, 45, 46, 47, 48, 49, 50, 51, 52, 53, 54, 55, 56, 57, 58, 59, 60, 61, 62, 63, 64, 65, 66, 67, 68, 69, 70, 71, 72, 73, 74, 75, 76, 77, 78, 79, 80, 81, 82, 83, 84, 85, 86, 87, 88, 91, 92, 93, 94, 95, 96, 97, 98, 99, 100, 101, 102, 103, 104, 105, 106, 107, 108, 109, 110, 111, 112, 113, 114, 115, 116, 117, 118, 119, 120, 121, 122, 123] (by decide +kernel) (by decide +kernel)
set_option maxRecDepth 20000 in
theorem gX5_restore_X0_copyFrom : GoodIn wsX5_restore (wsV RX5 25 RX0 yX0_copyFrom wsX0_copyFrom) := goodIn_app (goodIn_of _ (by decide +kernel)) ggX5_restore_X0_copyFrom
theorem dX5_restore_0 : decode cX5_restore 0 = .ok (.aload_n 0, 1) := by decide +kernel
theorem dX5_restore_1 : decode cX5_restore 1 = .ok (.getfield 18, 3) := by decide +kernel
theorem dX5_restore_4 : decode cX5_restore 4 = .ok (.ifCond .le 26, 3) := by decide +kernel
theorem dX5_restore_7 : decode cX5_restore 7 = .ok (.aload_n 0, 1) := by decide +kernel
theorem dX5_restore_8 : decode cX5_restore 8 = .ok (.dup, 1) := by decide +kernel
theorem dX5_restore_9 : decode cX5_restore 9 = .ok (.getfield 18, 3) := by decide +kernel
theorem dX5_restore_12 : decode cX5_restore 12 = .ok (.iconst 1, 1) := by decide +kernel
theorem dX5_restore_13 : decode cX5_restore 13 = .ok (.isub, 1) := by decide +kernel
theorem dX5_restore_14 : decode cX5_restore 14 = .ok (.putfield 18, 3) := by decide +kernel
theorem dX5_restore_17 : decode cX5_restore 17 = .ok (.aload_n 1, 1) := by decide +kernel
theorem dX5_restore_18 : decode cX5_restore 18 = .ok (.aload_n 0, 1) := by decide +kernel
theorem dX5_restore_19 : decode cX5_restore 19 = .ok (.getfield 11, 3) := by decide +kernel
theorem dX5_restore_22 : decode cX5_restore 22 = .ok (.aload_n 0, 1) := by decide +kernel
theorem dX5_restore_23 : decode cX5_restore 23 = .ok (.getfield 18, 3) := by decide +kernel
theorem dX5_restore_26 : decode cX5_restore 26 = .ok (.aaload, 1) := by decide +kernel
theorem dX5_restore_27 : decode cX5_restore 27 = .ok (.invokevirtual 25, 3) := by decide +kernel
theorem dX5_restore_30 : decode cX5_restore 30 = .ok (.aload_n 0, 1) := by decide +kernel
theorem dX5_restore_31 : decode cX5_restore 31 = .ok (.getfield 18, 3) := by decide +kernel
theorem dX5_restore_34 : decode cX5_restore 34 = .ok (.ireturn, 1) := by decide +kernel
set_option maxRecDepth 20000 in
theorem ggX6_init_X6_wipe : GoodIn wsX6_init wsX6_wipe := goodIn_r _ [11, 6, 12, 13, 14, 15, 16] (by decide +kernel) (by decide +kernel)
set_option maxRecDepth 20000 in
theorem gX6_init_X6_wipe : GoodIn wsX6_init (wsV RX6 16 RX6 yX6_wipe wsX6_wipe) := goodIn_app (goodIn_of _ (by decide +kernel)) ggX6_init_X6_wipe
theorem dX6_init_0 : decode cX6_init 0 = .ok (.aload_n 0, 1) := by decide +kernel
theorem dX6_init_1 : decode cX6_init 1 = .ok (.invokespecial 3, 3) := by decide +kernel
theorem dX6_init_4 : decode cX6_init 4 = .ok (.aload_n 0, 1) := by decide +kernel
theorem dX6_init_5 : decode cX6_init 5 = .ok (.bipush 7, 2) := by decide +kernel
theorem dX6_init_7 : decode cX6_init 7 = .ok (.bipush 12, 2) := by decide +kernel
theorem dX6_init_9 : decode cX6_init 9 = .ok (.multianewarray 9 2, 4) := by decide +kernel
theorem dX6_init_13 : decode cX6_init 13 = .ok (.putfield 11, 3) := by decide +kernel
theorem dX6_init_16 : decode cX6_init 16 = .ok (.aload_n 0, 1) := by decide +kernel
theorem dX6_init_17 : decode cX6_init 17 = .ok (.invokevirtual 16, 3) := by decide +kernel
theorem dX6_init_20 : decode cX6_init 20 = .ok (.return_, 1) := by decide +kernel
set_option maxRecDepth 20000 in
theorem ggX6_wipe_J7_fill_53178 : GoodIn wsX6_wipe wsJ7_fill_53178 := goodIn_r _ [5] (by decide +kernel) (by decide +kernel)
set_option maxRecDepth 20000 in
theorem gX6_wipe_J7_fill_53178 : GoodIn wsX6_wipe (va_wsS RX6 19 yJ7_fill_53178 wsJ7_fill_53178) := goodIn_app (goodIn_of _ (by decide +kernel)) ggX6_wipe_J7_fill_53178
theorem dX6_wipe_0 : decode cX6_wipe 0 = .ok (.iconst 0, 1) := by decide +kernel
theorem dX6_wipe_1 : decode cX6_wipe 1 = .ok (.istore_n 1, 1) := by decide +kernel
theorem dX6_wipe_2 : decode cX6_wipe 2 = .ok (.iload_n 1, 1) := by decide +kernel
theorem dX6_wipe_3 : decode cX6_wipe 3 = .ok (.bipush 7, 2) := by decide +kernel
theorem dX6_wipe_5 : decode cX6_wipe 5 = .ok (.if_icmp .ge 19, 3) := by decide +kernel
theorem dX6_wipe_8 : decode cX6_wipe 8 = .ok (.aload_n 0, 1) := by decide +kernel
theorem dX6_wipe_9 : decode cX6_wipe 9 = .ok (.getfield 11, 3) := by decide +kernel
theorem dX6_wipe_12 : decode cX6_wipe 12 = .ok (.iload_n 1, 1) := by decide +kernel
theorem dX6_wipe_13 : decode cX6_wipe 13 = .ok (.aaload, 1) := by decide +kernel
theorem dX6_wipe_14 : decode cX6_wipe 14 = .ok (.iconst (-1), 1) := by decide +kernel
theorem dX6_wipe_15 : decode cX6_wipe 15 = .ok (.invokestatic 19, 3) := by decide +kernel
theorem dX6_wipe_18 : decode cX6_wipe 18 = .ok (.iinc 1 1, 3) := by decide +kernel
theorem dX6_wipe_21 : decode cX6_wipe 21 = .ok (.goto (-19), 3) := by decide +kernel
theorem dX6_wipe_24 : decode cX6_wipe 24 = .ok (.return_, 1) := by decide +kernel
theorem dX6_at_0 : decode cX6_at 0 = .ok (.iload_n 1, 1) := by decide +kernel
theorem dX6_at_1 : decode cX6_at 1 = .ok (.ifCond .lt 23, 3) := by decide +kernel
theorem dX6_at_4 : decode cX6_at 4 = .ok (.iload_n 1, 1) := by decide +kernel
theorem dX6_at_5 : decode cX6_at 5 = .ok (.bipush 7, 2) := by decide +kernel
theorem dX6_at_7 : decode cX6_at 7 = .ok (.if_icmp .ge 17, 3) := by decide +kernel
theorem dX6_at_10 : decode cX6_at 10 = .ok (.iload_n 2, 1) := by decide +kernel
theorem dX6_at_11 : decode cX6_at 11 = .ok (.ifCond .lt 13, 3) := by decide +kernel
theorem dX6_at_14 : decode cX6_at 14 = .ok (.iload_n 2, 1) := by decide +kernel
theorem dX6_at_15 : decode cX6_at 15 = .ok (.bipush 12, 2) := by decide +kernel
theorem dX6_at_17 : decode cX6_at 17 = .ok (.if_icmp .ge 7, 3) := by decide +kernel
theorem dX6_at_20 : decode cX6_at 20 = .ok (.iconst 1, 1) := by decide +kernel
theorem dX6_at_21 : decode cX6_at 21 = .ok (.goto 4, 3) := by decide +kernel
theorem dX6_at_24 : decode cX6_at 24 = .ok (.iconst 0, 1) := by decide +kernel
theorem dX6_at_25 : decode cX6_at 25 = .ok (.istore_n 3, 1) := by decide +kernel
theorem dX6_at_26 : decode cX6_at 26 = .ok (.iload_n 3, 1) := by decide +kernel
theorem dX6_at_27 : decode cX6_at 27 = .ok (.ifCond .eq 14, 3) := by decide +kernel
theorem dX6_at_30 : decode cX6_at 30 = .ok (.aload_n 0, 1) := by decide +kernel
theorem dX6_at_31 : decode cX6_at 31 = .ok (.getfield 11, 3) := by decide +kernel
theorem dX6_at_34 : decode cX6_at 34 = .ok (.iload_n 1, 1) := by decide +kernel
theorem dX6_at_35 : decode cX6_at 35 = .ok (.aaload, 1) := by decide +kernel
theorem dX6_at_36 : decode cX6_at 36 = .ok (.iload_n 2, 1) := by decide +kernel
theorem dX6_at_37 : decode cX6_at 37 = .ok (.iaload, 1) := by decide +kernel
theorem dX6_at_38 : decode cX6_at 38 = .ok (.goto 4, 3) := by decide +kernel
theorem dX6_at_41 : decode cX6_at 41 = .ok (.iconst (-1), 1) := by decide +kernel
theorem dX6_at_42 : decode cX6_at 42 = .ok (.ireturn, 1) := by decide +kernel
theorem dX6_put_0 : decode cX6_put 0 = .ok (.iload_n 1, 1) := by decide +kernel
theorem dX6_put_1 : decode cX6_put 1 = .ok (.ifCond .lt 28, 3) := by decide +kernel
theorem dX6_put_4 : decode cX6_put 4 = .ok (.iload_n 1, 1) := by decide +kernel
theorem dX6_put_5 : decode cX6_put 5 = .ok (.bipush 7, 2) := by decide +kernel
theorem dX6_put_7 : decode cX6_put 7 = .ok (.if_icmp .ge 22, 3) := by decide +kernel
theorem dX6_put_10 : decode cX6_put 10 = .ok (.iload_n 2, 1) := by decide +kernel
theorem dX6_put_11 : decode cX6_put 11 = .ok (.ifCond .lt 18, 3) := by decide +kernel
theorem dX6_put_14 : decode cX6_put 14 = .ok (.iload_n 2, 1) := by decide +kernel
theorem dX6_put_15 : decode cX6_put 15 = .ok (.bipush 12, 2) := by decide +kernel
theorem dX6_put_17 : decode cX6_put 17 = .ok (.if_icmp .ge 12, 3) := by decide +kernel
theorem dX6_put_20 : decode cX6_put 20 = .ok (.aload_n 0, 1) := by decide +kernel
theorem dX6_put_21 : decode cX6_put 21 = .ok (.getfield 11, 3) := by decide +kernel
theorem dX6_put_24 : decode cX6_put 24 = .ok (.iload_n 1, 1) := by decide +kernel
theorem dX6_put_25 : decode cX6_put 25 = .ok (.aaload, 1) := by decide +kernel
theorem dX6_put_26 : decode cX6_put 26 = .ok (.iload_n 2, 1) := by decide +kernel
theorem dX6_put_27 : decode cX6_put 27 = .ok (.iload_n 3, 1) := by decide +kernel
theorem dX6_put_28 : decode cX6_put 28 = .ok (.iastore, 1) := by decide +kernel
theorem dX6_put_29 : decode cX6_put 29 = .ok (.return_, 1) := by decide +kernel
set_option maxRecDepth 20000 in
theorem ggX6_copyFrom_X11_copyRows : GoodIn wsX6_copyFrom wsX11_copyRows := goodIn_r _ [4, 5, 6, 7, 8, 9, 10, 11, 12] (by decide +kernel) (by decide +kernel)
set_option maxRecDepth 20000 in
theorem gX6_copyFrom_X11_copyRows_n25 : GoodIn wsX6_copyFrom (wsX11_copyRows) := ggX6_copyFrom_X11_copyRows
theorem dX6_copyFrom_0 : decode cX6_copyFrom 0 = .ok (.aload_n 1, 1) := by decide +kernel
theorem dX6_copyFrom_1 : decode cX6_copyFrom 1 = .ok (.getfield 11, 3) := by decide +kernel
theorem dX6_copyFrom_4 : decode cX6_copyFrom 4 = .ok (.aload_n 0, 1) := by decide +kernel
theorem dX6_copyFrom_5 : decode cX6_copyFrom 5 = .ok (.getfield 11, 3) := by decide +kernel
theorem dX6_copyFrom_8 : decode cX6_copyFrom 8 = .ok (.invokestatic 25, 3) := by decide +kernel
theorem dX6_copyFrom_11 : decode cX6_copyFrom 11 = .ok (.return_, 1) := by decide +kernel
set_option maxRecDepth 20000 in
theorem ggX7_init_X7_empty : GoodIn wsX7_init wsX7_empty := goodIn_r _ [11, 12, 13, 6, 14, 15, 16, 17, 18, 19, 20, 21, 22] (by decide +kernel) (by decide +kernel)
set_option maxRecDepth 20000 in
theorem gX7_init_X7_empty : GoodIn wsX7_init (wsV RX7 18 RX7 yX7_empty wsX7_empty) := goodIn_app (goodIn_of _ (by decide +kernel)) ggX7_init_X7_empty
theorem dX7_init_0 : decode cX7_init 0 = .ok (.aload_n 0, 1) := by decide +kernel
theorem dX7_init_1 : decode cX7_init 1 = .ok (.invokespecial 3, 3) := by decide +kernel
theorem dX7_init_4 : decode cX7_init 4 = .ok (.aload_n 0, 1) := by decide +kernel
theorem dX7_init_5 : decode cX7_init 5 = .ok (.bipush 12, 2) := by decide +kernel
theorem dX7_init_7 : decode cX7_init 7 = .ok (.newarray .int, 2) := by decide +kernel
theorem dX7_init_9 : decode cX7_init 9 = .ok (.putfield 9, 3) := by decide +kernel
theorem dX7_init_12 : decode cX7_init 12 = .ok (.aload_n 0, 1) := by decide +kernel
theorem dX7_init_13 : decode cX7_init 13 = .ok (.bipush 12, 2) := by decide +kernel
theorem dX7_init_15 : decode cX7_init 15 = .ok (.newarray .int, 2) := by decide +kernel
theorem dX7_init_17 : decode cX7_init 17 = .ok (.putfield 15, 3) := by decide +kernel
theorem dX7_init_20 : decode cX7_init 20 = .ok (.aload_n 0, 1) := by decide +kernel
theorem dX7_init_21 : decode cX7_init 21 = .ok (.invokevirtual 18, 3) := by decide +kernel
theorem dX7_init_24 : decode cX7_init 24 = .ok (.return_, 1) := by decide +kernel
set_option maxRecDepth 20000 in
theorem ggX7_empty_J7_fill_53178 : GoodIn wsX7_empty wsJ7_fill_53178 := goodIn_r _ [7] (by decide +kernel) (by decide +kernel)
set_option maxRecDepth 20000 in
theorem gX7_empty_J7_fill_53178 : GoodIn wsX7_empty (va_wsS RX7 28 yJ7_fill_53178 wsJ7_fill_53178) := goodIn_app (goodIn_of _ (by decide +kernel)) ggX7_empty_J7_fill_53178
theorem dX7_empty_0 : decode cX7_empty 0 = .ok (.aload_n 0, 1) := by decide +kernel
theorem dX7_empty_1 : decode cX7_empty 1 = .ok (.iconst 0, 1) := by decide +kernel
theorem dX7_empty_2 : decode cX7_empty 2 = .ok (.putfield 21, 3) := by decide +kernel
theorem dX7_empty_5 : decode cX7_empty 5 = .ok (.aload_n 0, 1) := by decide +kernel
theorem dX7_empty_6 : decode cX7_empty 6 = .ok (.iconst 0, 1) := by decide +kernel
theorem dX7_empty_7 : decode cX7_empty 7 = .ok (.putfield 25, 3) := by decide +kernel
theorem dX7_empty_10 : decode cX7_empty 10 = .ok (.aload_n 0, 1) := by decide +kernel
theorem dX7_empty_11 : decode cX7_empty 11 = .ok (.getfield 15, 3) := by decide +kernel
theorem dX7_empty_14 : decode cX7_empty 14 = .ok (.iconst (-1), 1) := by decide +kernel
theorem dX7_empty_15 : decode cX7_empty 15 = .ok (.invokestatic 28, 3) := by decide +kernel
theorem dX7_empty_18 : decode cX7_empty 18 = .ok (.return_, 1) := by decide +kernel
theorem dX7_seat_0 : decode cX7_seat 0 = .ok (.aload_n 0, 1) := by decide +kernel
theorem dX7_seat_1 : decode cX7_seat 1 = .ok (.getfield 21, 3) := by decide +kernel
theorem dX7_seat_4 : decode cX7_seat 4 = .ok (.bipush 12, 2) := by decide +kernel
theorem dX7_seat_6 : decode cX7_seat 6 = .ok (.if_icmp .ge 23, 3) := by decide +kernel
theorem dX7_seat_9 : decode cX7_seat 9 = .ok (.aload_n 0, 1) := by decide +kernel
theorem dX7_seat_10 : decode cX7_seat 10 = .ok (.getfield 9, 3) := by decide +kernel
theorem dX7_seat_13 : decode cX7_seat 13 = .ok (.aload_n 0, 1) := by decide +kernel
theorem dX7_seat_14 : decode cX7_seat 14 = .ok (.getfield 21, 3) := by decide +kernel
theorem dX7_seat_17 : decode cX7_seat 17 = .ok (.iload_n 1, 1) := by decide +kernel
theorem dX7_seat_18 : decode cX7_seat 18 = .ok (.iastore, 1) := by decide +kernel
theorem dX7_seat_19 : decode cX7_seat 19 = .ok (.aload_n 0, 1) := by decide +kernel
theorem dX7_seat_20 : decode cX7_seat 20 = .ok (.dup, 1) := by decide +kernel
theorem dX7_seat_21 : decode cX7_seat 21 = .ok (.getfield 21, 3) := by decide +kernel
theorem dX7_seat_24 : decode cX7_seat 24 = .ok (.iconst 1, 1) := by decide +kernel
theorem dX7_seat_25 : decode cX7_seat 25 = .ok (.iadd, 1) := by decide +kernel
theorem dX7_seat_26 : decode cX7_seat 26 = .ok (.putfield 21, 3) := by decide +kernel
theorem dX7_seat_29 : decode cX7_seat 29 = .ok (.return_, 1) := by decide +kernel
set_option maxRecDepth 20000 in
theorem ggX7_drawLots_X7_exchange : GoodIn wsX7_drawLots wsX7_exchange := goodIn_r _ [11, 12, 13, 14, 15, 16, 17, 18, 19, 20] (by decide +kernel) (by decide +kernel)
set_option maxRecDepth 20000 in
theorem gX7_drawLots_X7_exchange : GoodIn wsX7_drawLots (wsV RX7 46 RX7 yX7_exchange wsX7_exchange) := goodIn_app (goodIn_of _ (by decide +kernel)) ggX7_drawLots_X7_exchange
theorem dX7_drawLots_0 : decode cX7_drawLots 0 = .ok (.aload_n 0, 1) := by decide +kernel
theorem dX7_drawLots_1 : decode cX7_drawLots 1 = .ok (.getfield 21, 3) := by decide +kernel
theorem dX7_drawLots_4 : decode cX7_drawLots 4 = .ok (.iconst 1, 1) := by decide +kernel
theorem dX7_drawLots_5 : decode cX7_drawLots 5 = .ok (.isub, 1) := by decide +kernel
theorem dX7_drawLots_6 : decode cX7_drawLots 6 = .ok (.istore_n 1, 1) := by decide +kernel
theorem dX7_drawLots_7 : decode cX7_drawLots 7 = .ok (.iload_n 1, 1) := by decide +kernel
theorem dX7_drawLots_8 : decode cX7_drawLots 8 = .ok (.iconst 1, 1) := by decide +kernel
theorem dX7_drawLots_9 : decode cX7_drawLots 9 = .ok (.if_icmp .lt 48, 3) := by decide +kernel
theorem dX7_drawLots_12 : decode cX7_drawLots 12 = .ok (.aload_n 0, 1) := by decide +kernel
theorem dX7_drawLots_13 : decode cX7_drawLots 13 = .ok (.aload_n 0, 1) := by decide +kernel
theorem dX7_drawLots_14 : decode cX7_drawLots 14 = .ok (.getfield 34, 3) := by decide +kernel
theorem dX7_drawLots_17 : decode cX7_drawLots 17 = .ok (.ldc2_w 38, 3) := by decide +kernel
theorem dX7_drawLots_20 : decode cX7_drawLots 20 = .ok (.lmul, 1) := by decide +kernel
theorem dX7_drawLots_21 : decode cX7_drawLots 21 = .ok (.ldc2_w 40, 3) := by decide +kernel
theorem dX7_drawLots_24 : decode cX7_drawLots 24 = .ok (.ladd, 1) := by decide +kernel
theorem dX7_drawLots_25 : decode cX7_drawLots 25 = .ok (.ldc2_w 42, 3) := by decide +kernel
theorem dX7_drawLots_28 : decode cX7_drawLots 28 = .ok (.lrem, 1) := by decide +kernel
theorem dX7_drawLots_29 : decode cX7_drawLots 29 = .ok (.putfield 34, 3) := by decide +kernel
theorem dX7_drawLots_32 : decode cX7_drawLots 32 = .ok (.aload_n 0, 1) := by decide +kernel
theorem dX7_drawLots_33 : decode cX7_drawLots 33 = .ok (.iload_n 1, 1) := by decide +kernel
theorem dX7_drawLots_34 : decode cX7_drawLots 34 = .ok (.aload_n 0, 1) := by decide +kernel
theorem dX7_drawLots_35 : decode cX7_drawLots 35 = .ok (.getfield 34, 3) := by decide +kernel
theorem dX7_drawLots_38 : decode cX7_drawLots 38 = .ok (.ldc2_w 44, 3) := by decide +kernel
theorem dX7_drawLots_41 : decode cX7_drawLots 41 = .ok (.ldiv, 1) := by decide +kernel
theorem dX7_drawLots_42 : decode cX7_drawLots 42 = .ok (.iload_n 1, 1) := by decide +kernel
theorem dX7_drawLots_43 : decode cX7_drawLots 43 = .ok (.iconst 1, 1) := by decide +kernel
theorem dX7_drawLots_44 : decode cX7_drawLots 44 = .ok (.iadd, 1) := by decide +kernel
theorem dX7_drawLots_45 : decode cX7_drawLots 45 = .ok (.i2l, 1) := by decide +kernel
theorem dX7_drawLots_46 : decode cX7_drawLots 46 = .ok (.lrem, 1) := by decide +kernel
theorem dX7_drawLots_47 : decode cX7_drawLots 47 = .ok (.l2i, 1) := by decide +kernel
theorem dX7_drawLots_48 : decode cX7_drawLots 48 = .ok (.invokevirtual 46, 3) := by decide +kernel
theorem dX7_drawLots_51 : decode cX7_drawLots 51 = .ok (.iinc 1 (-1), 3) := by decide +kernel
theorem dX7_drawLots_54 : decode cX7_drawLots 54 = .ok (.goto (-47), 3) := by decide +kernel
theorem dX7_drawLots_57 : decode cX7_drawLots 57 = .ok (.return_, 1) := by decide +kernel
set_option maxRecDepth 20000 in
theorem ggX7_exchange_X11_isBetween : GoodIn wsX7_exchange wsX11_isBetween := goodIn_r _ [4] (by decide +kernel) (by decide +kernel)
set_option maxRecDepth 20000 in
theorem gX7_exchange_X11_isBetween_n50 : GoodIn wsX7_exchange (wsX11_isBetween) := ggX7_exchange_X11_isBetween
theorem dX7_exchange_0 : decode cX7_exchange 0 = .ok (.iload_n 1, 1) := by decide +kernel
theorem dX7_exchange_1 : decode cX7_exchange 1 = .ok (.iconst 0, 1) := by decide +kernel
theorem dX7_exchange_2 : decode cX7_exchange 2 = .ok (.bipush 11, 2) := by decide +kernel
theorem dX7_exchange_4 : decode cX7_exchange 4 = .ok (.invokestatic 50, 3) := by decide +kernel
theorem dX7_exchange_7 : decode cX7_exchange 7 = .ok (.ifCond .eq 39, 3) := by decide +kernel
theorem dX7_exchange_10 : decode cX7_exchange 10 = .ok (.iload_n 2, 1) := by decide +kernel
theorem dX7_exchange_11 : decode cX7_exchange 11 = .ok (.iconst 0, 1) := by decide +kernel
theorem dX7_exchange_12 : decode cX7_exchange 12 = .ok (.bipush 11, 2) := by decide +kernel
theorem dX7_exchange_14 : decode cX7_exchange 14 = .ok (.invokestatic 50, 3) := by decide +kernel
theorem dX7_exchange_17 : decode cX7_exchange 17 = .ok (.ifCond .eq 29, 3) := by decide +kernel
theorem dX7_exchange_20 : decode cX7_exchange 20 = .ok (.aload_n 0, 1) := by decide +kernel
theorem dX7_exchange_21 : decode cX7_exchange 21 = .ok (.getfield 9, 3) := by decide +kernel
theorem dX7_exchange_24 : decode cX7_exchange 24 = .ok (.iload_n 1, 1) := by decide +kernel
theorem dX7_exchange_25 : decode cX7_exchange 25 = .ok (.iaload, 1) := by decide +kernel
theorem dX7_exchange_26 : decode cX7_exchange 26 = .ok (.istore_n 3, 1) := by decide +kernel
theorem dX7_exchange_27 : decode cX7_exchange 27 = .ok (.aload_n 0, 1) := by decide +kernel
theorem dX7_exchange_28 : decode cX7_exchange 28 = .ok (.getfield 9, 3) := by decide +kernel
theorem dX7_exchange_31 : decode cX7_exchange 31 = .ok (.iload_n 1, 1) := by decide +kernel
theorem dX7_exchange_32 : decode cX7_exchange 32 = .ok (.aload_n 0, 1) := by decide +kernel
theorem dX7_exchange_33 : decode cX7_exchange 33 = .ok (.getfield 9, 3) := by decide +kernel
theorem dX7_exchange_36 : decode cX7_exchange 36 = .ok (.iload_n 2, 1) := by decide +kernel
theorem dX7_exchange_37 : decode cX7_exchange 37 = .ok (.iaload, 1) := by decide +kernel
theorem dX7_exchange_38 : decode cX7_exchange 38 = .ok (.iastore, 1) := by decide +kernel
theorem dX7_exchange_39 : decode cX7_exchange 39 = .ok (.aload_n 0, 1) := by decide +kernel
theorem dX7_exchange_40 : decode cX7_exchange 40 = .ok (.getfield 9, 3) := by decide +kernel
theorem dX7_exchange_43 : decode cX7_exchange 43 = .ok (.iload_n 2, 1) := by decide +kernel
theorem dX7_exchange_44 : decode cX7_exchange 44 = .ok (.iload_n 3, 1) := by decide +kernel
theorem dX7_exchange_45 : decode cX7_exchange 45 = .ok (.iastore, 1) := by decide +kernel
theorem dX7_exchange_46 : decode cX7_exchange 46 = .ok (.return_, 1) := by decide +kernel
theorem dX7_playerAt_0 : decode cX7_playerAt 0 = .ok (.iload_n 1, 1) := by decide +kernel
theorem dX7_playerAt_1 : decode cX7_playerAt 1 = .ok (.ifCond .lt 26, 3) := by decide +kernel
theorem dX7_playerAt_4 : decode cX7_playerAt 4 = .ok (.iload_n 1, 1) := by decide +kernel
theorem dX7_playerAt_5 : decode cX7_playerAt 5 = .ok (.aload_n 0, 1) := by decide +kernel
theorem dX7_playerAt_6 : decode cX7_playerAt 6 = .ok (.getfield 21, 3) := by decide +kernel
theorem dX7_playerAt_9 : decode cX7_playerAt 9 = .ok (.if_icmp .ge 18, 3) := by decide +kernel
theorem dX7_playerAt_12 : decode cX7_playerAt 12 = .ok (.iload_n 1, 1) := by decide +kernel
theorem dX7_playerAt_13 : decode cX7_playerAt 13 = .ok (.bipush 12, 2) := by decide +kernel
theorem dX7_playerAt_15 : decode cX7_playerAt 15 = .ok (.if_icmp .ge 12, 3) := by decide +kernel
theorem dX7_playerAt_18 : decode cX7_playerAt 18 = .ok (.aload_n 0, 1) := by decide +kernel
theorem dX7_playerAt_19 : decode cX7_playerAt 19 = .ok (.getfield 9, 3) := by decide +kernel
theorem dX7_playerAt_22 : decode cX7_playerAt 22 = .ok (.iload_n 1, 1) := by decide +kernel
theorem dX7_playerAt_23 : decode cX7_playerAt 23 = .ok (.iaload, 1) := by decide +kernel
theorem dX7_playerAt_24 : decode cX7_playerAt 24 = .ok (.goto 4, 3) := by decide +kernel
theorem dX7_playerAt_27 : decode cX7_playerAt 27 = .ok (.iconst (-1), 1) := by decide +kernel
theorem dX7_playerAt_28 : decode cX7_playerAt 28 = .ok (.ireturn, 1) := by decide +kernel
set_option maxRecDepth 20000 in
theorem ggX7_placeOf_X7_playerAt : GoodIn wsX7_placeOf wsX7_playerAt := goodIn_r _ [6, 1, 7, 8, 9, 10, 11, 12] (by decide +kernel) (by decide +kernel)
set_option maxRecDepth 20000 in
theorem gX7_placeOf_X7_playerAt : GoodIn wsX7_placeOf (wsV RX7 54 RX7 yX7_playerAt wsX7_playerAt) := goodIn_app (goodIn_of _ (by decide +kernel)) ggX7_placeOf_X7_playerAt
theorem dX7_placeOf_0 : decode cX7_placeOf 0 = .ok (.iconst 0, 1) := by decide +kernel
theorem dX7_placeOf_1 : decode cX7_placeOf 1 = .ok (.istore_n 2, 1) := by decide +kernel
theorem dX7_placeOf_2 : decode cX7_placeOf 2 = .ok (.iload_n 2, 1) := by decide +kernel
theorem dX7_placeOf_3 : decode cX7_placeOf 3 = .ok (.aload_n 0, 1) := by decide +kernel
theorem dX7_placeOf_4 : decode cX7_placeOf 4 = .ok (.getfield 21, 3) := by decide +kernel
theorem dX7_placeOf_7 : decode cX7_placeOf 7 = .ok (.if_icmp .ge 20, 3) := by decide +kernel
theorem dX7_placeOf_10 : decode cX7_placeOf 10 = .ok (.aload_n 0, 1) := by decide +kernel
theorem dX7_placeOf_11 : decode cX7_placeOf 11 = .ok (.iload_n 2, 1) := by decide +kernel
theorem dX7_placeOf_12 : decode cX7_placeOf 12 = .ok (.invokevirtual 54, 3) := by decide +kernel
theorem dX7_placeOf_15 : decode cX7_placeOf 15 = .ok (.iload_n 1, 1) := by decide +kernel
theorem dX7_placeOf_16 : decode cX7_placeOf 16 = .ok (.if_icmp .ne 5, 3) := by decide +kernel
theorem dX7_placeOf_19 : decode cX7_placeOf 19 = .ok (.iload_n 2, 1) := by decide +kernel
theorem dX7_placeOf_20 : decode cX7_placeOf 20 = .ok (.ireturn, 1) := by decide +kernel
theorem dX7_placeOf_21 : decode cX7_placeOf 21 = .ok (.iinc 2 1, 3) := by decide +kernel
theorem dX7_placeOf_24 : decode cX7_placeOf 24 = .ok (.goto (-22), 3) := by decide +kernel
theorem dX7_placeOf_27 : decode cX7_placeOf 27 = .ok (.iconst (-1), 1) := by decide +kernel
theorem dX7_placeOf_28 : decode cX7_placeOf 28 = .ok (.ireturn, 1) := by decide +kernel
set_option maxRecDepth 20000 in
theorem ggX7_slipsOf_X11_isBetween : GoodIn wsX7_slipsOf wsX11_isBetween := goodIn_r _ [4] (by decide +kernel) (by decide +kernel)
set_option maxRecDepth 20000 in
theorem gX7_slipsOf_X11_isBetween_n50 : GoodIn wsX7_slipsOf (wsX11_isBetween) := ggX7_slipsOf_X11_isBetween
theorem dX7_slipsOf_0 : decode cX7_slipsOf 0 = .ok (.iload_n 1, 1) := by decide +kernel
theorem dX7_slipsOf_1 : decode cX7_slipsOf 1 = .ok (.iconst 0, 1) := by decide +kernel
theorem dX7_slipsOf_2 : decode cX7_slipsOf 2 = .ok (.bipush 11, 2) := by decide +kernel
theorem dX7_slipsOf_4 : decode cX7_slipsOf 4 = .ok (.invokestatic 50, 3) := by decide +kernel
theorem dX7_slipsOf_7 : decode cX7_slipsOf 7 = .ok (.ifCond .eq 12, 3) := by decide +kernel
theorem dX7_slipsOf_10 : decode cX7_slipsOf 10 = .ok (.aload_n 0, 1) := by decide +kernel
theorem dX7_slipsOf_11 : decode cX7_slipsOf 11 = .ok (.getfield 15, 3) := by decide +kernel
theorem dX7_slipsOf_14 : decode cX7_slipsOf 14 = .ok (.iload_n 1, 1) := by decide +kernel
theorem dX7_slipsOf_15 : decode cX7_slipsOf 15 = .ok (.iaload, 1) := by decide +kernel
theorem dX7_slipsOf_16 : decode cX7_slipsOf 16 = .ok (.goto 4, 3) := by decide +kernel
theorem dX7_slipsOf_19 : decode cX7_slipsOf 19 = .ok (.iconst (-1), 1) := by decide +kernel
theorem dX7_slipsOf_20 : decode cX7_slipsOf 20 = .ok (.ireturn, 1) := by decide +kernel
set_option maxRecDepth 20000 in
theorem ggX7_hasPlayed_X7_slipsOf : GoodIn wsX7_hasPlayed wsX7_slipsOf := goodIn_r _ [5, 6, 7, 8, 9, 10, 11, 12, 13, 14] (by decide +kernel) (by decide +kernel)
set_option maxRecDepth 20000 in
theorem gX7_hasPlayed_X7_slipsOf : GoodIn wsX7_hasPlayed (wsV RX7 58 RX7 yX7_slipsOf wsX7_slipsOf) := goodIn_app (goodIn_of _ (by decide +kernel)) ggX7_hasPlayed_X7_slipsOf
theorem dX7_hasPlayed_0 : decode cX7_hasPlayed 0 = .ok (.aload_n 0, 1) := by decide +kernel
theorem dX7_hasPlayed_1 : decode cX7_hasPlayed 1 = .ok (.iload_n 1, 1) := by decide +kernel
theorem dX7_hasPlayed_2 : decode cX7_hasPlayed 2 = .ok (.invokevirtual 58, 3) := by decide +kernel
theorem dX7_hasPlayed_5 : decode cX7_hasPlayed 5 = .ok (.iconst (-1), 1) := by decide +kernel
theorem dX7_hasPlayed_6 : decode cX7_hasPlayed 6 = .ok (.if_icmp .eq 7, 3) := by decide +kernel
theorem dX7_hasPlayed_9 : decode cX7_hasPlayed 9 = .ok (.iconst 1, 1) := by decide +kernel
theorem dX7_hasPlayed_10 : decode cX7_hasPlayed 10 = .ok (.goto 4, 3) := by decide +kernel
theorem dX7_hasPlayed_13 : decode cX7_hasPlayed 13 = .ok (.iconst 0, 1) := by decide +kernel
theorem dX7_hasPlayed_14 : decode cX7_hasPlayed 14 = .ok (.ireturn, 1) := by decide +kernel
set_option maxRecDepth 20000 in
theorem ggX7_letNextPlay_X7_playerAt : GoodIn wsX7_letNextPlay wsX7_playerAt := goodIn_r _ [7, 8, 9, 13, 14, 15, 16, 17] (by decide +kernel) (by decide +kernel)
set_option maxRecDepth 20000 in
theorem gX7_letNextPlay_X7_playerAt : GoodIn wsX7_letNextPlay (wsV RX7 54 RX7 yX7_playerAt wsX7_playerAt) := goodIn_app (goodIn_of _ (by decide +kernel)) ggX7_letNextPlay_X7_playerAt
set_option maxRecDepth 20000 in
theorem ggX7_letNextPlay_X11_isBetween : GoodIn wsX7_letNextPlay wsX11_isBetween := goodIn_r _ [12] (by decide +kernel) (by decide +kernel)
set_option maxRecDepth 20000 in
theorem gX7_letNextPlay_X11_isBetween_n50 : GoodIn wsX7_letNextPlay (wsX11_isBetween) := ggX7_letNextPlay_X11_isBetween
theorem dX7_letNextPlay_0 : decode cX7_letNextPlay 0 = .ok (.aload_n 0, 1) := by decide +kernel
theorem dX7_letNextPlay_1 : decode cX7_letNextPlay 1 = .ok (.aload_n 0, 1) := by decide +kernel
theorem dX7_letNextPlay_2 : decode cX7_letNextPlay 2 = .ok (.getfield 25, 3) := by decide +kernel
theorem dX7_letNextPlay_5 : decode cX7_letNextPlay 5 = .ok (.invokevirtual 54, 3) := by decide +kernel
theorem dX7_letNextPlay_8 : decode cX7_letNextPlay 8 = .ok (.istore_n 2, 1) := by decide +kernel
theorem dX7_letNextPlay_9 : decode cX7_letNextPlay 9 = .ok (.iload_n 2, 1) := by decide +kernel
theorem dX7_letNextPlay_10 : decode cX7_letNextPlay 10 = .ok (.iconst 0, 1) := by decide +kernel
theorem dX7_letNextPlay_11 : decode cX7_letNextPlay 11 = .ok (.bipush 11, 2) := by decide +kernel
theorem dX7_letNextPlay_13 : decode cX7_letNextPlay 13 = .ok (.invokestatic 50, 3) := by decide +kernel
theorem dX7_letNextPlay_16 : decode cX7_letNextPlay 16 = .ok (.ifCond .eq 20, 3) := by decide +kernel
theorem dX7_letNextPlay_19 : decode cX7_letNextPlay 19 = .ok (.aload_n 0, 1) := by decide +kernel
theorem dX7_letNextPlay_20 : decode cX7_letNextPlay 20 = .ok (.getfield 15, 3) := by decide +kernel
theorem dX7_letNextPlay_23 : decode cX7_letNextPlay 23 = .ok (.iload_n 2, 1) := by decide +kernel
theorem dX7_letNextPlay_24 : decode cX7_letNextPlay 24 = .ok (.iload_n 1, 1) := by decide +kernel
theorem dX7_letNextPlay_25 : decode cX7_letNextPlay 25 = .ok (.iastore, 1) := by decide +kernel
theorem dX7_letNextPlay_26 : decode cX7_letNextPlay 26 = .ok (.aload_n 0, 1) := by decide +kernel
theorem dX7_letNextPlay_27 : decode cX7_letNextPlay 27 = .ok (.dup, 1) := by decide +kernel
theorem dX7_letNextPlay_28 : decode cX7_letNextPlay 28 = .ok (.getfield 25, 3) := by decide +kernel
theorem dX7_letNextPlay_31 : decode cX7_letNextPlay 31 = .ok (.iconst 1, 1) := by decide +kernel
theorem dX7_letNextPlay_32 : decode cX7_letNextPlay 32 = .ok (.iadd, 1) := by decide +kernel
theorem dX7_letNextPlay_33 : decode cX7_letNextPlay 33 = .ok (.putfield 25, 3) := by decide +kernel
theorem dX7_letNextPlay_36 : decode cX7_letNextPlay 36 = .ok (.iload_n 2, 1) := by decide +kernel
theorem dX7_letNextPlay_37 : decode cX7_letNextPlay 37 = .ok (.ireturn, 1) := by decide +kernel
set_option maxRecDepth 20000 in
theorem ggX7_unseat_X7_placeOf : GoodIn wsX7_unseat wsX7_placeOf := goodIn_r _ [6, 1, 7, 8, 9, 5, 10, 11, 19, 20, 21, 22, 23] (by decide +kernel) (by decide +kernel)
set_option maxRecDepth 20000 in
theorem gX7_unseat_X7_placeOf : GoodIn wsX7_unseat (wsV RX7 61 RX7 yX7_placeOf wsX7_placeOf) := goodIn_app (goodIn_of _ (by decide +kernel)) ggX7_unseat_X7_placeOf
set_option maxRecDepth 20000 in
theorem ggX7_unseat_X7_exchange : GoodIn wsX7_unseat wsX7_exchange := goodIn_r _ [15, 11, 16, 17, 18, 19, 20, 21, 22, 23] (by decide +kernel) (by decide +kernel)
set_option maxRecDepth 20000 in
theorem gX7_unseat_X7_exchange : GoodIn wsX7_unseat (wsV RX7 46 RX7 yX7_exchange wsX7_exchange) := goodIn_app (goodIn_of _ (by decide +kernel)) ggX7_unseat_X7_exchange
theorem dX7_unseat_0 : decode cX7_unseat 0 = .ok (.aload_n 0, 1) := by decide +kernel
theorem dX7_unseat_1 : decode cX7_unseat 1 = .ok (.iload_n 1, 1) := by decide +kernel
theorem dX7_unseat_2 : decode cX7_unseat 2 = .ok (.invokevirtual 61, 3) := by decide +kernel
theorem dX7_unseat_5 : decode cX7_unseat 5 = .ok (.istore_n 2, 1) := by decide +kernel
theorem dX7_unseat_6 : decode cX7_unseat 6 = .ok (.iload_n 2, 1) := by decide +kernel
theorem dX7_unseat_7 : decode cX7_unseat 7 = .ok (.iconst (-1), 1) := by decide +kernel
theorem dX7_unseat_8 : decode cX7_unseat 8 = .ok (.if_icmp .ne 4, 3) := by decide +kernel
theorem dX7_unseat_11 : decode cX7_unseat 11 = .ok (.return_, 1) := by decide +kernel
theorem dX7_unseat_12 : decode cX7_unseat 12 = .ok (.iload_n 2, 1) := by decide +kernel
theorem dX7_unseat_13 : decode cX7_unseat 13 = .ok (.istore_n 3, 1) := by decide +kernel
theorem dX7_unseat_14 : decode cX7_unseat 14 = .ok (.iload_n 3, 1) := by decide +kernel
theorem dX7_unseat_15 : decode cX7_unseat 15 = .ok (.iconst 1, 1) := by decide +kernel
theorem dX7_unseat_16 : decode cX7_unseat 16 = .ok (.iadd, 1) := by decide +kernel
theorem dX7_unseat_17 : decode cX7_unseat 17 = .ok (.aload_n 0, 1) := by decide +kernel
theorem dX7_unseat_18 : decode cX7_unseat 18 = .ok (.getfield 21, 3) := by decide +kernel
theorem dX7_unseat_21 : decode cX7_unseat 21 = .ok (.if_icmp .ge 17, 3) := by decide +kernel
theorem dX7_unseat_24 : decode cX7_unseat 24 = .ok (.aload_n 0, 1) := by decide +kernel
theorem dX7_unseat_25 : decode cX7_unseat 25 = .ok (.iload_n 3, 1) := by decide +kernel
theorem dX7_unseat_26 : decode cX7_unseat 26 = .ok (.iload_n 3, 1) := by decide +kernel
theorem dX7_unseat_27 : decode cX7_unseat 27 = .ok (.iconst 1, 1) := by decide +kernel
theorem dX7_unseat_28 : decode cX7_unseat 28 = .ok (.iadd, 1) := by decide +kernel
theorem dX7_unseat_29 : decode cX7_unseat 29 = .ok (.invokevirtual 46, 3) := by decide +kernel
theorem dX7_unseat_32 : decode cX7_unseat 32 = .ok (.iinc 3 1, 3) := by decide +kernel
theorem dX7_unseat_35 : decode cX7_unseat 35 = .ok (.goto (-21), 3) := by decide +kernel
theorem dX7_unseat_38 : decode cX7_unseat 38 = .ok (.aload_n 0, 1) := by decide +kernel
theorem dX7_unseat_39 : decode cX7_unseat 39 = .ok (.dup, 1) := by decide +kernel
theorem dX7_unseat_40 : decode cX7_unseat 40 = .ok (.getfield 21, 3) := by decide +kernel
theorem dX7_unseat_43 : decode cX7_unseat 43 = .ok (.iconst 1, 1) := by decide +kernel
theorem dX7_unseat_44 : decode cX7_unseat 44 = .ok (.isub, 1) := by decide +kernel
theorem dX7_unseat_45 : decode cX7_unseat 45 = .ok (.putfield 21, 3) := by decide +kernel
theorem dX7_unseat_48 : decode cX7_unseat 48 = .ok (.return_, 1) := by decide +kernel
set_option maxRecDepth 20000 in
theorem ggX7_copyFrom_X11_copyRow : GoodIn wsX7_copyFrom wsX11_copyRow := goodIn_r _ [8, 9, 10, 11, 12, 13, 14, 15, 16] (by decide +kernel) (by decide +kernel)
set_option maxRecDepth 20000 in
theorem gX7_copyFrom_X11_copyRow_n64 : GoodIn wsX7_copyFrom (wsX11_copyRow) := ggX7_copyFrom_X11_copyRow
theorem dX7_copyFrom_0 : decode cX7_copyFrom 0 = .ok (.aload_n 0, 1) := by decide +kernel
theorem dX7_copyFrom_1 : decode cX7_copyFrom 1 = .ok (.aload_n 1, 1) := by decide +kernel
theorem dX7_copyFrom_2 : decode cX7_copyFrom 2 = .ok (.getfield 21, 3) := by decide +kernel
theorem dX7_copyFrom_5 : decode cX7_copyFrom 5 = .ok (.putfield 21, 3) := by decide +kernel
theorem dX7_copyFrom_8 : decode cX7_copyFrom 8 = .ok (.aload_n 0, 1) := by decide +kernel
theorem dX7_copyFrom_9 : decode cX7_copyFrom 9 = .ok (.aload_n 1, 1) := by decide +kernel
theorem dX7_copyFrom_10 : decode cX7_copyFrom 10 = .ok (.getfield 25, 3) := by decide +kernel
theorem dX7_copyFrom_13 : decode cX7_copyFrom 13 = .ok (.putfield 25, 3) := by decide +kernel
theorem dX7_copyFrom_16 : decode cX7_copyFrom 16 = .ok (.aload_n 0, 1) := by decide +kernel
theorem dX7_copyFrom_17 : decode cX7_copyFrom 17 = .ok (.aload_n 1, 1) := by decide +kernel
theorem dX7_copyFrom_18 : decode cX7_copyFrom 18 = .ok (.getfield 34, 3) := by decide +kernel
theorem dX7_copyFrom_21 : decode cX7_copyFrom 21 = .ok (.putfield 34, 3) := by decide +kernel
theorem dX7_copyFrom_24 : decode cX7_copyFrom 24 = .ok (.aload_n 1, 1) := by decide +kernel
theorem dX7_copyFrom_25 : decode cX7_copyFrom 25 = .ok (.getfield 9, 3) := by decide +kernel
theorem dX7_copyFrom_28 : decode cX7_copyFrom 28 = .ok (.aload_n 0, 1) := by decide +kernel
theorem dX7_copyFrom_29 : decode cX7_copyFrom 29 = .ok (.getfield 9, 3) := by decide +kernel
theorem dX7_copyFrom_32 : decode cX7_copyFrom 32 = .ok (.invokestatic 64, 3) := by decide +kernel
theorem dX7_copyFrom_35 : decode cX7_copyFrom 35 = .ok (.aload_n 1, 1) := by decide +kernel
theorem dX7_copyFrom_36 : decode cX7_copyFrom 36 = .ok (.getfield 15, 3) := by decide +kernel
theorem dX7_copyFrom_39 : decode cX7_copyFrom 39 = .ok (.aload_n 0, 1) := by decide +kernel
theorem dX7_copyFrom_40 : decode cX7_copyFrom 40 = .ok (.getfield 15, 3) := by decide +kernel
theorem dX7_copyFrom_43 : decode cX7_copyFrom 43 = .ok (.invokestatic 64, 3) := by decide +kernel
theorem dX7_copyFrom_46 : decode cX7_copyFrom 46 = .ok (.return_, 1) := by decide +kernel
theorem dX8_init_0 : decode cX8_init 0 = .ok (.aload_n 0, 1) := by decide +kernel
theorem dX8_init_1 : decode cX8_init 1 = .ok (.invokespecial 3, 3) := by decide +kernel
theorem dX8_init_4 : decode cX8_init 4 = .ok (.aload_n 0, 1) := by decide +kernel
theorem dX8_init_5 : decode cX8_init 5 = .ok (.bipush 40, 2) := by decide +kernel
theorem dX8_init_7 : decode cX8_init 7 = .ok (.newarray .int, 2) := by decide +kernel
theorem dX8_init_9 : decode cX8_init 9 = .ok (.putfield 9, 3) := by decide +kernel
theorem dX8_init_12 : decode cX8_init 12 = .ok (.aload_n 0, 1) := by decide +kernel
theorem dX8_init_13 : decode cX8_init 13 = .ok (.iconst 4, 1) := by decide +kernel
theorem dX8_init_14 : decode cX8_init 14 = .ok (.newarray .int, 2) := by decide +kernel
theorem dX8_init_16 : decode cX8_init 16 = .ok (.putfield 15, 3) := by decide +kernel
theorem dX8_init_19 : decode cX8_init 19 = .ok (.aload_n 0, 1) := by decide +kernel
theorem dX8_init_20 : decode cX8_init 20 = .ok (.iconst 4, 1) := by decide +kernel
theorem dX8_init_21 : decode cX8_init 21 = .ok (.newarray .int, 2) := by decide +kernel
theorem dX8_init_23 : decode cX8_init 23 = .ok (.putfield 18, 3) := by decide +kernel
theorem dX8_init_26 : decode cX8_init 26 = .ok (.return_, 1) := by decide +kernel
theorem dX8_append_0 : decode cX8_append 0 = .ok (.aload_n 0, 1) := by decide +kernel
theorem dX8_append_1 : decode cX8_append 1 = .ok (.getfield 21, 3) := by decide +kernel
theorem dX8_append_4 : decode cX8_append 4 = .ok (.bipush 40, 2) := by decide +kernel
theorem dX8_append_6 : decode cX8_append 6 = .ok (.if_icmp .ge 23, 3) := by decide +kernel
theorem dX8_append_9 : decode cX8_append 9 = .ok (.aload_n 0, 1) := by decide +kernel
theorem dX8_append_10 : decode cX8_append 10 = .ok (.getfield 9, 3) := by decide +kernel
theorem dX8_append_13 : decode cX8_append 13 = .ok (.aload_n 0, 1) := by decide +kernel
theorem dX8_append_14 : decode cX8_append 14 = .ok (.getfield 21, 3) := by decide +kernel
theorem dX8_append_17 : decode cX8_append 17 = .ok (.iload_n 1, 1) := by decide +kernel
theorem dX8_append_18 : decode cX8_append 18 = .ok (.iastore, 1) := by decide +kernel
theorem dX8_append_19 : decode cX8_append 19 = .ok (.aload_n 0, 1) := by decide +kernel
theorem dX8_append_20 : decode cX8_append 20 = .ok (.dup, 1) := by decide +kernel
theorem dX8_append_21 : decode cX8_append 21 = .ok (.getfield 21, 3) := by decide +kernel
theorem dX8_append_24 : decode cX8_append 24 = .ok (.iconst 1, 1) := by decide +kernel
theorem dX8_append_25 : decode cX8_append 25 = .ok (.iadd, 1) := by decide +kernel
theorem dX8_append_26 : decode cX8_append 26 = .ok (.putfield 21, 3) := by decide +kernel
theorem dX8_append_29 : decode cX8_append 29 = .ok (.aload_n 0, 1) := by decide +kernel
theorem dX8_append_30 : decode cX8_append 30 = .ok (.getfield 21, 3) := by decide +kernel
theorem dX8_append_33 : decode cX8_append 33 = .ok (.ireturn, 1) := by decide +kernel
set_option maxRecDepth 20000 in
theorem ggX8_faultAmong_X8_readNumbers : GoodIn wsX8_faultAmong wsX8_readNumbers := goodIn_r _ [8, 1, 9, 10, 11, 12, 13, 14, 15, 16, 7, 17, 3, 2, 22, 23, 24, 25, 26] (by decide +kernel) (by decide +kernel)
set_option maxRecDepth 20000 in
theorem gX8_faultAmong_X8_readNumbers : GoodIn wsX8_faultAmong (wsV RX8 25 RX8 yX8_readNumbers wsX8_readNumbers) := goodIn_app (goodIn_of _ (by decide +kernel)) ggX8_faultAmong_X8_readNumbers
set_option maxRecDepth 20000 in
theorem ggX8_faultAmong_X8_isToldBefore : GoodIn wsX8_faultAmong wsX8_isToldBefore := goodIn_r _ [21, 2, 22, 23, 24, 25, 26] (by decide +kernel) (by decide +kernel)
set_option maxRecDepth 20000 in
theorem gX8_faultAmong_X8_isToldBefore : GoodIn wsX8_faultAmong (wsV RX8 32 RX8 yX8_isToldBefore wsX8_isToldBefore) := goodIn_app (goodIn_of _ (by decide +kernel)) ggX8_faultAmong_X8_isToldBefore
theorem dX8_faultAmong_0 : decode cX8_faultAmong 0 = .ok (.aload_n 0, 1) := by decide +kernel
theorem dX8_faultAmong_1 : decode cX8_faultAmong 1 = .ok (.invokevirtual 25, 3) := by decide +kernel
theorem dX8_faultAmong_4 : decode cX8_faultAmong 4 = .ok (.istore_n 2, 1) := by decide +kernel
theorem dX8_faultAmong_5 : decode cX8_faultAmong 5 = .ok (.iload_n 2, 1) := by decide +kernel
theorem dX8_faultAmong_6 : decode cX8_faultAmong 6 = .ok (.iconst (-1), 1) := by decide +kernel
theorem dX8_faultAmong_7 : decode cX8_faultAmong 7 = .ok (.if_icmp .eq 5, 3) := by decide +kernel
theorem dX8_faultAmong_10 : decode cX8_faultAmong 10 = .ok (.iload_n 2, 1) := by decide +kernel
theorem dX8_faultAmong_11 : decode cX8_faultAmong 11 = .ok (.ireturn, 1) := by decide +kernel
theorem dX8_faultAmong_12 : decode cX8_faultAmong 12 = .ok (.iconst 0, 1) := by decide +kernel
theorem dX8_faultAmong_13 : decode cX8_faultAmong 13 = .ok (.istore_n 3, 1) := by decide +kernel
theorem dX8_faultAmong_14 : decode cX8_faultAmong 14 = .ok (.iload_n 3, 1) := by decide +kernel
theorem dX8_faultAmong_15 : decode cX8_faultAmong 15 = .ok (.aload_n 0, 1) := by decide +kernel
theorem dX8_faultAmong_16 : decode cX8_faultAmong 16 = .ok (.getfield 29, 3) := by decide +kernel
theorem dX8_faultAmong_19 : decode cX8_faultAmong 19 = .ok (.if_icmp .ge 34, 3) := by decide +kernel
theorem dX8_faultAmong_22 : decode cX8_faultAmong 22 = .ok (.aload_n 0, 1) := by decide +kernel
theorem dX8_faultAmong_23 : decode cX8_faultAmong 23 = .ok (.getfield 15, 3) := by decide +kernel
theorem dX8_faultAmong_26 : decode cX8_faultAmong 26 = .ok (.iload_n 3, 1) := by decide +kernel
theorem dX8_faultAmong_27 : decode cX8_faultAmong 27 = .ok (.iaload, 1) := by decide +kernel
theorem dX8_faultAmong_28 : decode cX8_faultAmong 28 = .ok (.iload_n 1, 1) := by decide +kernel
theorem dX8_faultAmong_29 : decode cX8_faultAmong 29 = .ok (.if_icmp .ge 11, 3) := by decide +kernel
theorem dX8_faultAmong_32 : decode cX8_faultAmong 32 = .ok (.aload_n 0, 1) := by decide +kernel
theorem dX8_faultAmong_33 : decode cX8_faultAmong 33 = .ok (.iload_n 3, 1) := by decide +kernel
theorem dX8_faultAmong_34 : decode cX8_faultAmong 34 = .ok (.invokevirtual 32, 3) := by decide +kernel
theorem dX8_faultAmong_37 : decode cX8_faultAmong 37 = .ok (.ifCond .eq 10, 3) := by decide +kernel
theorem dX8_faultAmong_40 : decode cX8_faultAmong 40 = .ok (.aload_n 0, 1) := by decide +kernel
theorem dX8_faultAmong_41 : decode cX8_faultAmong 41 = .ok (.getfield 18, 3) := by decide +kernel
theorem dX8_faultAmong_44 : decode cX8_faultAmong 44 = .ok (.iload_n 3, 1) := by decide +kernel
theorem dX8_faultAmong_45 : decode cX8_faultAmong 45 = .ok (.iaload, 1) := by decide +kernel
theorem dX8_faultAmong_46 : decode cX8_faultAmong 46 = .ok (.ireturn, 1) := by decide +kernel
theorem dX8_faultAmong_47 : decode cX8_faultAmong 47 = .ok (.iinc 3 1, 3) := by decide +kernel
theorem dX8_faultAmong_50 : decode cX8_faultAmong 50 = .ok (.goto (-36), 3) := by decide +kernel
theorem dX8_faultAmong_53 : decode cX8_faultAmong 53 = .ok (.iconst (-1), 1) := by decide +kernel
theorem dX8_faultAmong_54 : decode cX8_faultAmong 54 = .ok (.ireturn, 1) := by decide +kernel
theorem dX8_isToldBefore_0 : decode cX8_isToldBefore 0 = .ok (.iconst 0, 1) := by decide +kernel
theorem dX8_isToldBefore_1 : decode cX8_isToldBefore 1 = .ok (.istore_n 2, 1) := by decide +kernel
theorem dX8_isToldBefore_2 : decode cX8_isToldBefore 2 = .ok (.iload_n 2, 1) := by decide +kernel
theorem dX8_isToldBefore_3 : decode cX8_isToldBefore 3 = .ok (.iload_n 1, 1) := by decide +kernel
theorem dX8_isToldBefore_4 : decode cX8_isToldBefore 4 = .ok (.if_icmp .ge 26, 3) := by decide +kernel
theorem dX8_isToldBefore_7 : decode cX8_isToldBefore 7 = .ok (.aload_n 0, 1) := by decide +kernel
theorem dX8_isToldBefore_8 : decode cX8_isToldBefore 8 = .ok (.getfield 15, 3) := by decide +kernel
theorem dX8_isToldBefore_11 : decode cX8_isToldBefore 11 = .ok (.iload_n 2, 1) := by decide +kernel
theorem dX8_isToldBefore_12 : decode cX8_isToldBefore 12 = .ok (.iaload, 1) := by decide +kernel
theorem dX8_isToldBefore_13 : decode cX8_isToldBefore 13 = .ok (.aload_n 0, 1) := by decide +kernel
theorem dX8_isToldBefore_14 : decode cX8_isToldBefore 14 = .ok (.getfield 15, 3) := by decide +kernel
theorem dX8_isToldBefore_17 : decode cX8_isToldBefore 17 = .ok (.iload_n 1, 1) := by decide +kernel
theorem dX8_isToldBefore_18 : decode cX8_isToldBefore 18 = .ok (.iaload, 1) := by decide +kernel
theorem dX8_isToldBefore_19 : decode cX8_isToldBefore 19 = .ok (.if_icmp .ne 5, 3) := by decide +kernel
theorem dX8_isToldBefore_22 : decode cX8_isToldBefore 22 = .ok (.iconst 1, 1) := by decide +kernel
theorem dX8_isToldBefore_23 : decode cX8_isToldBefore 23 = .ok (.ireturn, 1) := by decide +kernel
theorem dX8_isToldBefore_24 : decode cX8_isToldBefore 24 = .ok (.iinc 2 1, 3) := by decide +kernel
theorem dX8_isToldBefore_27 : decode cX8_isToldBefore 27 = .ok (.goto (-25), 3) := by decide +kernel
theorem dX8_isToldBefore_30 : decode cX8_isToldBefore 30 = .ok (.iconst 0, 1) := by decide +kernel
theorem dX8_isToldBefore_31 : decode cX8_isToldBefore 31 = .ok (.ireturn, 1) := by decide +kernel
set_option maxRecDepth 20000 in
theorem ggX8_readNumbers_X11_isBetween : GoodIn wsX8_readNumbers wsX11_isBetween := goodIn_r _ [6] (by decide +kernel) (by decide +kernel)
set_option maxRecDepth 20000 in
theorem gX8_readNumbers_X11_isBetween_n36 : GoodIn wsX8_readNumbers (wsX11_isBetween) := ggX8_readNumbers_X11_isBetween
set_option maxRecDepth 20000 in
theorem ggX8_readNumbers_X8_readDigit : GoodIn wsX8_readNumbers wsX8_readDigit := goodIn_r _ [11, 1, 12, 13, 4, 5, 6, 14, 15, 16, 17, 18] (by decide +kernel) (by decide +kernel)
set_option maxRecDepth 20000 in
theorem gX8_readNumbers_X8_readDigit : GoodIn wsX8_readNumbers (wsV RX8 40 RX8 yX8_readDigit wsX8_readDigit) := goodIn_app (goodIn_of _ (by decide +kernel)) ggX8_readNumbers_X8_readDigit
theorem dX8_readNumbers_0 : decode cX8_readNumbers 0 = .ok (.aload_n 0, 1) := by decide +kernel
theorem dX8_readNumbers_1 : decode cX8_readNumbers 1 = .ok (.iconst 0, 1) := by decide +kernel
theorem dX8_readNumbers_2 : decode cX8_readNumbers 2 = .ok (.putfield 29, 3) := by decide +kernel
theorem dX8_readNumbers_5 : decode cX8_readNumbers 5 = .ok (.iconst 0, 1) := by decide +kernel
theorem dX8_readNumbers_6 : decode cX8_readNumbers 6 = .ok (.istore_n 1, 1) := by decide +kernel
theorem dX8_readNumbers_7 : decode cX8_readNumbers 7 = .ok (.iconst 0, 1) := by decide +kernel
theorem dX8_readNumbers_8 : decode cX8_readNumbers 8 = .ok (.istore_n 2, 1) := by decide +kernel
theorem dX8_readNumbers_9 : decode cX8_readNumbers 9 = .ok (.iload_n 2, 1) := by decide +kernel
theorem dX8_readNumbers_10 : decode cX8_readNumbers 10 = .ok (.aload_n 0, 1) := by decide +kernel
theorem dX8_readNumbers_11 : decode cX8_readNumbers 11 = .ok (.getfield 21, 3) := by decide +kernel
theorem dX8_readNumbers_14 : decode cX8_readNumbers 14 = .ok (.if_icmp .ge 82, 3) := by decide +kernel
theorem dX8_readNumbers_17 : decode cX8_readNumbers 17 = .ok (.aload_n 0, 1) := by decide +kernel
theorem dX8_readNumbers_18 : decode cX8_readNumbers 18 = .ok (.getfield 9, 3) := by decide +kernel
theorem dX8_readNumbers_21 : decode cX8_readNumbers 21 = .ok (.iload_n 2, 1) := by decide +kernel
theorem dX8_readNumbers_22 : decode cX8_readNumbers 22 = .ok (.iaload, 1) := by decide +kernel
theorem dX8_readNumbers_23 : decode cX8_readNumbers 23 = .ok (.istore_n 3, 1) := by decide +kernel
theorem dX8_readNumbers_24 : decode cX8_readNumbers 24 = .ok (.iload_n 3, 1) := by decide +kernel
theorem dX8_readNumbers_25 : decode cX8_readNumbers 25 = .ok (.bipush 48, 2) := by decide +kernel
theorem dX8_readNumbers_27 : decode cX8_readNumbers 27 = .ok (.bipush 57, 2) := by decide +kernel
theorem dX8_readNumbers_29 : decode cX8_readNumbers 29 = .ok (.invokestatic 36, 3) := by decide +kernel
theorem dX8_readNumbers_32 : decode cX8_readNumbers 32 = .ok (.ifCond .eq 33, 3) := by decide +kernel
theorem dX8_readNumbers_35 : decode cX8_readNumbers 35 = .ok (.iload_n 1, 1) := by decide +kernel
theorem dX8_readNumbers_36 : decode cX8_readNumbers 36 = .ok (.iconst 2, 1) := by decide +kernel
theorem dX8_readNumbers_37 : decode cX8_readNumbers 37 = .ok (.if_icmp .ge 28, 3) := by decide +kernel
theorem dX8_readNumbers_40 : decode cX8_readNumbers 40 = .ok (.iinc 1 1, 3) := by decide +kernel
theorem dX8_readNumbers_43 : decode cX8_readNumbers 43 = .ok (.aload_n 0, 1) := by decide +kernel
theorem dX8_readNumbers_44 : decode cX8_readNumbers 44 = .ok (.iload_n 2, 1) := by decide +kernel
theorem dX8_readNumbers_45 : decode cX8_readNumbers 45 = .ok (.iload_n 3, 1) := by decide +kernel
theorem dX8_readNumbers_46 : decode cX8_readNumbers 46 = .ok (.bipush 48, 2) := by decide +kernel
theorem dX8_readNumbers_48 : decode cX8_readNumbers 48 = .ok (.isub, 1) := by decide +kernel
theorem dX8_readNumbers_49 : decode cX8_readNumbers 49 = .ok (.iload_n 1, 1) := by decide +kernel
theorem dX8_readNumbers_50 : decode cX8_readNumbers 50 = .ok (.iconst 1, 1) := by decide +kernel
theorem dX8_readNumbers_51 : decode cX8_readNumbers 51 = .ok (.if_icmp .ne 7, 3) := by decide +kernel
theorem dX8_readNumbers_54 : decode cX8_readNumbers 54 = .ok (.iconst 1, 1) := by decide +kernel
theorem dX8_readNumbers_55 : decode cX8_readNumbers 55 = .ok (.goto 4, 3) := by decide +kernel
theorem dX8_readNumbers_58 : decode cX8_readNumbers 58 = .ok (.iconst 0, 1) := by decide +kernel
theorem dX8_readNumbers_59 : decode cX8_readNumbers 59 = .ok (.invokevirtual 40, 3) := by decide +kernel
theorem dX8_readNumbers_62 : decode cX8_readNumbers 62 = .ok (.goto 28, 3) := by decide +kernel
theorem dX8_readNumbers_65 : decode cX8_readNumbers 65 = .ok (.iload_n 3, 1) := by decide +kernel
theorem dX8_readNumbers_66 : decode cX8_readNumbers 66 = .ok (.bipush 44, 2) := by decide +kernel
theorem dX8_readNumbers_68 : decode cX8_readNumbers 68 = .ok (.if_icmp .ne 20, 3) := by decide +kernel
theorem dX8_readNumbers_71 : decode cX8_readNumbers 71 = .ok (.iload_n 1, 1) := by decide +kernel
theorem dX8_readNumbers_72 : decode cX8_readNumbers 72 = .ok (.ifCond .le 16, 3) := by decide +kernel
theorem dX8_readNumbers_75 : decode cX8_readNumbers 75 = .ok (.aload_n 0, 1) := by decide +kernel
theorem dX8_readNumbers_76 : decode cX8_readNumbers 76 = .ok (.getfield 29, 3) := by decide +kernel
theorem dX8_readNumbers_79 : decode cX8_readNumbers 79 = .ok (.iconst 4, 1) := by decide +kernel
theorem dX8_readNumbers_80 : decode cX8_readNumbers 80 = .ok (.if_icmp .ge 8, 3) := by decide +kernel
theorem dX8_readNumbers_83 : decode cX8_readNumbers 83 = .ok (.iconst 0, 1) := by decide +kernel
theorem dX8_readNumbers_84 : decode cX8_readNumbers 84 = .ok (.istore_n 1, 1) := by decide +kernel
theorem dX8_readNumbers_85 : decode cX8_readNumbers 85 = .ok (.goto 5, 3) := by decide +kernel
theorem dX8_readNumbers_88 : decode cX8_readNumbers 88 = .ok (.iload_n 2, 1) := by decide +kernel
theorem dX8_readNumbers_89 : decode cX8_readNumbers 89 = .ok (.ireturn, 1) := by decide +kernel
theorem dX8_readNumbers_90 : decode cX8_readNumbers 90 = .ok (.iinc 2 1, 3) := by decide +kernel
theorem dX8_readNumbers_93 : decode cX8_readNumbers 93 = .ok (.goto (-84), 3) := by decide +kernel
theorem dX8_readNumbers_96 : decode cX8_readNumbers 96 = .ok (.iload_n 1, 1) := by decide +kernel
theorem dX8_readNumbers_97 : decode cX8_readNumbers 97 = .ok (.ifCond .ne 10, 3) := by decide +kernel
theorem dX8_readNumbers_100 : decode cX8_readNumbers 100 = .ok (.aload_n 0, 1) := by decide +kernel
theorem dX8_readNumbers_101 : decode cX8_readNumbers 101 = .ok (.getfield 21, 3) := by decide +kernel
theorem dX8_readNumbers_104 : decode cX8_readNumbers 104 = .ok (.goto 4, 3) := by decide +kernel
theorem dX8_readNumbers_107 : decode cX8_readNumbers 107 = .ok (.iconst (-1), 1) := by decide +kernel
theorem dX8_readNumbers_108 : decode cX8_readNumbers 108 = .ok (.ireturn, 1) := by decide +kernel
set_option maxRecDepth 20000 in
theorem ggX8_readDigit_X11_isBetween : GoodIn wsX8_readDigit wsX11_isBetween := goodIn_r _ [6] (by decide +kernel) (by decide +kernel)
set_option maxRecDepth 20000 in
theorem gX8_readDigit_X11_isBetween_n36 : GoodIn wsX8_readDigit (wsX11_isBetween) := ggX8_readDigit_X11_isBetween
theorem dX8_readDigit_0 : decode cX8_readDigit 0 = .ok (.iload_n 3, 1) := by decide +kernel
theorem dX8_readDigit_1 : decode cX8_readDigit 1 = .ok (.ifCond .eq 44, 3) := by decide +kernel
theorem dX8_readDigit_4 : decode cX8_readDigit 4 = .ok (.aload_n 0, 1) := by decide +kernel
theorem dX8_readDigit_5 : decode cX8_readDigit 5 = .ok (.getfield 29, 3) := by decide +kernel
theorem dX8_readDigit_8 : decode cX8_readDigit 8 = .ok (.iconst 4, 1) := by decide +kernel
theorem dX8_readDigit_9 : decode cX8_readDigit 9 = .ok (.if_icmp .ge 36, 3) := by decide +kernel
theorem dX8_readDigit_12 : decode cX8_readDigit 12 = .ok (.aload_n 0, 1) := by decide +kernel
theorem dX8_readDigit_13 : decode cX8_readDigit 13 = .ok (.getfield 18, 3) := by decide +kernel
theorem dX8_readDigit_16 : decode cX8_readDigit 16 = .ok (.aload_n 0, 1) := by decide +kernel
theorem dX8_readDigit_17 : decode cX8_readDigit 17 = .ok (.getfield 29, 3) := by decide +kernel
theorem dX8_readDigit_20 : decode cX8_readDigit 20 = .ok (.iload_n 1, 1) := by decide +kernel
theorem dX8_readDigit_21 : decode cX8_readDigit 21 = .ok (.iastore, 1) := by decide +kernel
theorem dX8_readDigit_22 : decode cX8_readDigit 22 = .ok (.aload_n 0, 1) := by decide +kernel
theorem dX8_readDigit_23 : decode cX8_readDigit 23 = .ok (.getfield 15, 3) := by decide +kernel
theorem dX8_readDigit_26 : decode cX8_readDigit 26 = .ok (.aload_n 0, 1) := by decide +kernel
theorem dX8_readDigit_27 : decode cX8_readDigit 27 = .ok (.getfield 29, 3) := by decide +kernel
theorem dX8_readDigit_30 : decode cX8_readDigit 30 = .ok (.iload_n 2, 1) := by decide +kernel
theorem dX8_readDigit_31 : decode cX8_readDigit 31 = .ok (.iastore, 1) := by decide +kernel
theorem dX8_readDigit_32 : decode cX8_readDigit 32 = .ok (.aload_n 0, 1) := by decide +kernel
theorem dX8_readDigit_33 : decode cX8_readDigit 33 = .ok (.dup, 1) := by decide +kernel
theorem dX8_readDigit_34 : decode cX8_readDigit 34 = .ok (.getfield 29, 3) := by decide +kernel
theorem dX8_readDigit_37 : decode cX8_readDigit 37 = .ok (.iconst 1, 1) := by decide +kernel
theorem dX8_readDigit_38 : decode cX8_readDigit 38 = .ok (.iadd, 1) := by decide +kernel
theorem dX8_readDigit_39 : decode cX8_readDigit 39 = .ok (.putfield 29, 3) := by decide +kernel
theorem dX8_readDigit_42 : decode cX8_readDigit 42 = .ok (.goto 46, 3) := by decide +kernel
theorem dX8_readDigit_45 : decode cX8_readDigit 45 = .ok (.iload_n 3, 1) := by decide +kernel
theorem dX8_readDigit_46 : decode cX8_readDigit 46 = .ok (.ifCond .ne 42, 3) := by decide +kernel
theorem dX8_readDigit_49 : decode cX8_readDigit 49 = .ok (.aload_n 0, 1) := by decide +kernel
theorem dX8_readDigit_50 : decode cX8_readDigit 50 = .ok (.getfield 29, 3) := by decide +kernel
theorem dX8_readDigit_53 : decode cX8_readDigit 53 = .ok (.iconst 1, 1) := by decide +kernel
theorem dX8_readDigit_54 : decode cX8_readDigit 54 = .ok (.iconst 4, 1) := by decide +kernel
theorem dX8_readDigit_55 : decode cX8_readDigit 55 = .ok (.invokestatic 36, 3) := by decide +kernel
theorem dX8_readDigit_58 : decode cX8_readDigit 58 = .ok (.ifCond .eq 30, 3) := by decide +kernel
theorem dX8_readDigit_61 : decode cX8_readDigit 61 = .ok (.aload_n 0, 1) := by decide +kernel
theorem dX8_readDigit_62 : decode cX8_readDigit 62 = .ok (.getfield 15, 3) := by decide +kernel
theorem dX8_readDigit_65 : decode cX8_readDigit 65 = .ok (.aload_n 0, 1) := by decide +kernel
theorem dX8_readDigit_66 : decode cX8_readDigit 66 = .ok (.getfield 29, 3) := by decide +kernel
theorem dX8_readDigit_69 : decode cX8_readDigit 69 = .ok (.iconst 1, 1) := by decide +kernel
theorem dX8_readDigit_70 : decode cX8_readDigit 70 = .ok (.isub, 1) := by decide +kernel
theorem dX8_readDigit_71 : decode cX8_readDigit 71 = .ok (.aload_n 0, 1) := by decide +kernel
theorem dX8_readDigit_72 : decode cX8_readDigit 72 = .ok (.getfield 15, 3) := by decide +kernel
theorem dX8_readDigit_75 : decode cX8_readDigit 75 = .ok (.aload_n 0, 1) := by decide +kernel
theorem dX8_readDigit_76 : decode cX8_readDigit 76 = .ok (.getfield 29, 3) := by decide +kernel
theorem dX8_readDigit_79 : decode cX8_readDigit 79 = .ok (.iconst 1, 1) := by decide +kernel
theorem dX8_readDigit_80 : decode cX8_readDigit 80 = .ok (.isub, 1) := by decide +kernel
theorem dX8_readDigit_81 : decode cX8_readDigit 81 = .ok (.iaload, 1) := by decide +kernel
theorem dX8_readDigit_82 : decode cX8_readDigit 82 = .ok (.bipush 10, 2) := by decide +kernel
theorem dX8_readDigit_84 : decode cX8_readDigit 84 = .ok (.imul, 1) := by decide +kernel
theorem dX8_readDigit_85 : decode cX8_readDigit 85 = .ok (.iload_n 2, 1) := by decide +kernel
theorem dX8_readDigit_86 : decode cX8_readDigit 86 = .ok (.iadd, 1) := by decide +kernel
theorem dX8_readDigit_87 : decode cX8_readDigit 87 = .ok (.iastore, 1) := by decide +kernel
theorem dX8_readDigit_88 : decode cX8_readDigit 88 = .ok (.return_, 1) := by decide +kernel
set_option maxRecDepth 20000 in
theorem ggX9_init_X6_init : GoodIn wsX9_init wsX6_init := goodIn_r _ [12, 13, 2, 3, 14, 4, 15, 16, 17, 18, 8, 19, 20, 21, 22, 23, 28] (by decide +kernel) (by decide +kernel)
set_option maxRecDepth 20000 in
theorem gX9_init_X6_init : GoodIn wsX9_init (wsX6_init) := ggX9_init_X6_init
theorem dX9_init_0 : decode cX9_init 0 = .ok (.aload_n 0, 1) := by decide +kernel
theorem dX9_init_1 : decode cX9_init 1 = .ok (.invokespecial 3, 3) := by decide +kernel
theorem dX9_init_4 : decode cX9_init 4 = .ok (.aload_n 0, 1) := by decide +kernel
theorem dX9_init_5 : decode cX9_init 5 = .ok (.bipush 12, 2) := by decide +kernel
theorem dX9_init_7 : decode cX9_init 7 = .ok (.newarray .int, 2) := by decide +kernel
theorem dX9_init_9 : decode cX9_init 9 = .ok (.putfield 9, 3) := by decide +kernel
theorem dX9_init_12 : decode cX9_init 12 = .ok (.aload_n 0, 1) := by decide +kernel
theorem dX9_init_13 : decode cX9_init 13 = .ok (.new 15, 3) := by decide +kernel
theorem dX9_init_16 : decode cX9_init 16 = .ok (.dup, 1) := by decide +kernel
theorem dX9_init_17 : decode cX9_init 17 = .ok (.invokespecial 17, 3) := by decide +kernel
theorem dX9_init_20 : decode cX9_init 20 = .ok (.putfield 18, 3) := by decide +kernel
theorem dX9_init_23 : decode cX9_init 23 = .ok (.return_, 1) := by decide +kernel
set_option maxRecDepth 20000 in
theorem ggX9_end_J7_fill_53178 : GoodIn wsX9_end wsJ7_fill_53178 := goodIn_r _ [8] (by decide +kernel) (by decide +kernel)
set_option maxRecDepth 20000 in
theorem gX9_end_J7_fill_53178 : GoodIn wsX9_end (va_wsS RX9 29 yJ7_fill_53178 wsJ7_fill_53178) := goodIn_app (goodIn_of _ (by decide +kernel)) ggX9_end_J7_fill_53178
set_option maxRecDepth 20000 in
theorem ggX9_end_X6_wipe : GoodIn wsX9_end wsX6_wipe := goodIn_r _ [13, 14, 15, 6, 7, 8, 20] (by decide +kernel) (by decide +kernel)
set_option maxRecDepth 20000 in
theorem gX9_end_X6_wipe : GoodIn wsX9_end (wsV RX9 35 RX6 yX6_wipe wsX6_wipe) := goodIn_app (goodIn_of _ (by decide +kernel)) ggX9_end_X6_wipe
theorem dX9_end_0 : decode cX9_end 0 = .ok (.aload_n 0, 1) := by decide +kernel
theorem dX9_end_1 : decode cX9_end 1 = .ok (.iconst 0, 1) := by decide +kernel
theorem dX9_end_2 : decode cX9_end 2 = .ok (.putfield 22, 3) := by decide +kernel
theorem dX9_end_5 : decode cX9_end 5 = .ok (.aload_n 0, 1) := by decide +kernel
theorem dX9_end_6 : decode cX9_end 6 = .ok (.iconst 0, 1) := by decide +kernel
theorem dX9_end_7 : decode cX9_end 7 = .ok (.putfield 26, 3) := by decide +kernel
theorem dX9_end_10 : decode cX9_end 10 = .ok (.aload_n 0, 1) := by decide +kernel
theorem dX9_end_11 : decode cX9_end 11 = .ok (.getfield 9, 3) := by decide +kernel
theorem dX9_end_14 : decode cX9_end 14 = .ok (.iconst 0, 1) := by decide +kernel
theorem dX9_end_15 : decode cX9_end 15 = .ok (.invokestatic 29, 3) := by decide +kernel
theorem dX9_end_18 : decode cX9_end 18 = .ok (.aload_n 0, 1) := by decide +kernel
theorem dX9_end_19 : decode cX9_end 19 = .ok (.getfield 18, 3) := by decide +kernel
theorem dX9_end_22 : decode cX9_end 22 = .ok (.invokevirtual 35, 3) := by decide +kernel
theorem dX9_end_25 : decode cX9_end 25 = .ok (.return_, 1) := by decide +kernel
set_option maxRecDepth 20000 in
theorem ggX9_startNext_X1_placesLeft : GoodIn wsX9_startNext wsX1_placesLeft := goodIn_r _ [9, 10, 11, 44, 45, 46, 47, 48, 49] (by decide +kernel) (by decide +kernel)
set_option maxRecDepth 20000 in
theorem gX9_startNext_X1_placesLeft : GoodIn wsX9_startNext (wsV RX9 38 RX1 yX1_placesLeft wsX1_placesLeft) := goodIn_app (goodIn_of _ (by decide +kernel)) ggX9_startNext_X1_placesLeft
set_option maxRecDepth 20000 in
theorem ggX9_startNext_X1_isTied : GoodIn wsX9_startNext wsX1_isTied := goodIn_r _ [15, 16, 17, 18, 19, 8, 20, 11, 21, 10, 22, 23, 24, 25, 26, 27, 28, 29, 44, 45, 46, 47, 48, 49] (by decide +kernel) (by decide +kernel)
set_option maxRecDepth 20000 in
theorem gX9_startNext_X1_isTied : GoodIn wsX9_startNext (wsV RX9 44 RX1 yX1_isTied wsX1_isTied) := goodIn_app (goodIn_of _ (by decide +kernel)) ggX9_startNext_X1_isTied
set_option maxRecDepth 20000 in
theorem ggX9_startNext_X6_wipe : GoodIn wsX9_startNext wsX6_wipe := goodIn_r _ [34, 35, 36, 37, 38, 39, 50] (by decide +kernel) (by decide +kernel)
set_option maxRecDepth 20000 in
theorem gX9_startNext_X6_wipe : GoodIn wsX9_startNext (wsV RX9 35 RX6 yX6_wipe wsX6_wipe) := goodIn_app (goodIn_of _ (by decide +kernel)) ggX9_startNext_X6_wipe
theorem dX9_startNext_0 : decode cX9_startNext 0 = .ok (.aload_n 0, 1) := by decide +kernel
theorem dX9_startNext_1 : decode cX9_startNext 1 = .ok (.dup, 1) := by decide +kernel
theorem dX9_startNext_2 : decode cX9_startNext 2 = .ok (.getfield 22, 3) := by decide +kernel
theorem dX9_startNext_5 : decode cX9_startNext 5 = .ok (.iconst 1, 1) := by decide +kernel
theorem dX9_startNext_6 : decode cX9_startNext 6 = .ok (.iadd, 1) := by decide +kernel
theorem dX9_startNext_7 : decode cX9_startNext 7 = .ok (.putfield 22, 3) := by decide +kernel
theorem dX9_startNext_10 : decode cX9_startNext 10 = .ok (.aload_n 0, 1) := by decide +kernel
theorem dX9_startNext_11 : decode cX9_startNext 11 = .ok (.aload_n 1, 1) := by decide +kernel
theorem dX9_startNext_12 : decode cX9_startNext 12 = .ok (.invokevirtual 38, 3) := by decide +kernel
theorem dX9_startNext_15 : decode cX9_startNext 15 = .ok (.putfield 26, 3) := by decide +kernel
theorem dX9_startNext_18 : decode cX9_startNext 18 = .ok (.iconst 0, 1) := by decide +kernel
theorem dX9_startNext_19 : decode cX9_startNext 19 = .ok (.istore_n 2, 1) := by decide +kernel
theorem dX9_startNext_20 : decode cX9_startNext 20 = .ok (.iload_n 2, 1) := by decide +kernel
theorem dX9_startNext_21 : decode cX9_startNext 21 = .ok (.bipush 12, 2) := by decide +kernel
theorem dX9_startNext_23 : decode cX9_startNext 23 = .ok (.if_icmp .ge 28, 3) := by decide +kernel
theorem dX9_startNext_26 : decode cX9_startNext 26 = .ok (.aload_n 0, 1) := by decide +kernel
theorem dX9_startNext_27 : decode cX9_startNext 27 = .ok (.getfield 9, 3) := by decide +kernel
theorem dX9_startNext_30 : decode cX9_startNext 30 = .ok (.iload_n 2, 1) := by decide +kernel
theorem dX9_startNext_31 : decode cX9_startNext 31 = .ok (.aload_n 1, 1) := by decide +kernel
theorem dX9_startNext_32 : decode cX9_startNext 32 = .ok (.iload_n 2, 1) := by decide +kernel
theorem dX9_startNext_33 : decode cX9_startNext 33 = .ok (.invokevirtual 44, 3) := by decide +kernel
theorem dX9_startNext_36 : decode cX9_startNext 36 = .ok (.ifCond .eq 7, 3) := by decide +kernel
theorem dX9_startNext_39 : decode cX9_startNext 39 = .ok (.iconst 1, 1) := by decide +kernel
theorem dX9_startNext_40 : decode cX9_startNext 40 = .ok (.goto 4, 3) := by decide +kernel
theorem dX9_startNext_43 : decode cX9_startNext 43 = .ok (.iconst 0, 1) := by decide +kernel
theorem dX9_startNext_44 : decode cX9_startNext 44 = .ok (.iastore, 1) := by decide +kernel
theorem dX9_startNext_45 : decode cX9_startNext 45 = .ok (.iinc 2 1, 3) := by decide +kernel
theorem dX9_startNext_48 : decode cX9_startNext 48 = .ok (.goto (-28), 3) := by decide +kernel
theorem dX9_startNext_51 : decode cX9_startNext 51 = .ok (.aload_n 0, 1) := by decide +kernel
theorem dX9_startNext_52 : decode cX9_startNext 52 = .ok (.getfield 18, 3) := by decide +kernel
theorem dX9_startNext_55 : decode cX9_startNext 55 = .ok (.invokevirtual 35, 3) := by decide +kernel
theorem dX9_startNext_58 : decode cX9_startNext 58 = .ok (.return_, 1) := by decide +kernel
set_option maxRecDepth 20000 in
theorem ggX9_has_X11_isBetween : GoodIn wsX9_has wsX11_isBetween := goodIn_r _ [4] (by decide +kernel) (by decide +kernel)
set_option maxRecDepth 20000 in
theorem gX9_has_X11_isBetween_n48 : GoodIn wsX9_has (wsX11_isBetween) := ggX9_has_X11_isBetween
theorem dX9_has_0 : decode cX9_has 0 = .ok (.iload_n 1, 1) := by decide +kernel
theorem dX9_has_1 : decode cX9_has 1 = .ok (.iconst 0, 1) := by decide +kernel
theorem dX9_has_2 : decode cX9_has 2 = .ok (.bipush 11, 2) := by decide +kernel
theorem dX9_has_4 : decode cX9_has 4 = .ok (.invokestatic 48, 3) := by decide +kernel
theorem dX9_has_7 : decode cX9_has 7 = .ok (.ifCond .eq 17, 3) := by decide +kernel
theorem dX9_has_10 : decode cX9_has 10 = .ok (.aload_n 0, 1) := by decide +kernel
theorem dX9_has_11 : decode cX9_has 11 = .ok (.getfield 9, 3) := by decide +kernel
theorem dX9_has_14 : decode cX9_has 14 = .ok (.iload_n 1, 1) := by decide +kernel
theorem dX9_has_15 : decode cX9_has 15 = .ok (.iaload, 1) := by decide +kernel
theorem dX9_has_16 : decode cX9_has 16 = .ok (.iconst 1, 1) := by decide +kernel
theorem dX9_has_17 : decode cX9_has 17 = .ok (.if_icmp .ne 7, 3) := by decide +kernel
theorem dX9_has_20 : decode cX9_has 20 = .ok (.iconst 1, 1) := by decide +kernel
theorem dX9_has_21 : decode cX9_has 21 = .ok (.goto 4, 3) := by decide +kernel
theorem dX9_has_24 : decode cX9_has 24 = .ok (.iconst 0, 1) := by decide +kernel
theorem dX9_has_25 : decode cX9_has 25 = .ok (.ireturn, 1) := by decide +kernel
theorem dX9_count_0 : decode cX9_count 0 = .ok (.iconst 0, 1) := by decide +kernel
theorem dX9_count_1 : decode cX9_count 1 = .ok (.istore_n 1, 1) := by decide +kernel
theorem dX9_count_2 : decode cX9_count 2 = .ok (.aload_n 0, 1) := by decide +kernel
theorem dX9_count_3 : decode cX9_count 3 = .ok (.getfield 9, 3) := by decide +kernel
theorem dX9_count_6 : decode cX9_count 6 = .ok (.astore_n 2, 1) := by decide +kernel
theorem dX9_count_7 : decode cX9_count 7 = .ok (.aload_n 2, 1) := by decide +kernel
theorem dX9_count_8 : decode cX9_count 8 = .ok (.arraylength, 1) := by decide +kernel
theorem dX9_count_9 : decode cX9_count 9 = .ok (.istore_n 3, 1) := by decide +kernel
theorem dX9_count_10 : decode cX9_count 10 = .ok (.iconst 0, 1) := by decide +kernel
theorem dX9_count_11 : decode cX9_count 11 = .ok (.istore 4, 2) := by decide +kernel
theorem dX9_count_13 : decode cX9_count 13 = .ok (.iload 4, 2) := by decide +kernel
theorem dX9_count_15 : decode cX9_count 15 = .ok (.iload_n 3, 1) := by decide +kernel
theorem dX9_count_16 : decode cX9_count 16 = .ok (.if_icmp .ge 20, 3) := by decide +kernel
theorem dX9_count_19 : decode cX9_count 19 = .ok (.aload_n 2, 1) := by decide +kernel
theorem dX9_count_20 : decode cX9_count 20 = .ok (.iload 4, 2) := by decide +kernel
theorem dX9_count_22 : decode cX9_count 22 = .ok (.iaload, 1) := by decide +kernel
theorem dX9_count_23 : decode cX9_count 23 = .ok (.istore 5, 2) := by decide +kernel
theorem dX9_count_25 : decode cX9_count 25 = .ok (.iload_n 1, 1) := by decide +kernel
theorem dX9_count_26 : decode cX9_count 26 = .ok (.iload 5, 2) := by decide +kernel
theorem dX9_count_28 : decode cX9_count 28 = .ok (.iadd, 1) := by decide +kernel
theorem dX9_count_29 : decode cX9_count 29 = .ok (.istore_n 1, 1) := by decide +kernel
theorem dX9_count_30 : decode cX9_count 30 = .ok (.iinc 4 1, 3) := by decide +kernel
theorem dX9_count_33 : decode cX9_count 33 = .ok (.goto (-20), 3) := by decide +kernel
theorem dX9_count_36 : decode cX9_count 36 = .ok (.iload_n 1, 1) := by decide +kernel
theorem dX9_count_37 : decode cX9_count 37 = .ok (.ireturn, 1) := by decide +kernel
set_option maxRecDepth 20000 in
theorem ggX9_copyFrom_X11_copyRow : GoodIn wsX9_copyFrom wsX11_copyRow := goodIn_r _ [7, 8, 9, 10, 11, 12, 13, 14, 15] (by decide +kernel) (by decide +kernel)
set_option maxRecDepth 20000 in
theorem gX9_copyFrom_X11_copyRow_n52 : GoodIn wsX9_copyFrom (wsX11_copyRow) := ggX9_copyFrom_X11_copyRow
set_option maxRecDepth 20000 in
theorem ggX9_copyFrom_X6_copyFrom : GoodIn wsX9_copyFrom wsX6_copyFrom := goodIn_r _ [20, 21, 22, 6, 23, 8, 9, 10, 11, 12, 13, 14, 15, 28] (by decide +kernel) (by decide +kernel)
set_option maxRecDepth 20000 in
theorem gX9_copyFrom_X6_copyFrom : GoodIn wsX9_copyFrom (wsV RX9 56 RX6 yX6_copyFrom wsX6_copyFrom) := goodIn_app (goodIn_of _ (by decide +kernel)) ggX9_copyFrom_X6_copyFrom
theorem dX9_copyFrom_0 : decode cX9_copyFrom 0 = .ok (.aload_n 0, 1) := by decide +kernel
theorem dX9_copyFrom_1 : decode cX9_copyFrom 1 = .ok (.aload_n 1, 1) := by decide +kernel
theorem dX9_copyFrom_2 : decode cX9_copyFrom 2 = .ok (.getfield 22, 3) := by decide +kernel
theorem dX9_copyFrom_5 : decode cX9_copyFrom 5 = .ok (.putfield 22, 3) := by decide +kernel
theorem dX9_copyFrom_8 : decode cX9_copyFrom 8 = .ok (.aload_n 0, 1) := by decide +kernel
theorem dX9_copyFrom_9 : decode cX9_copyFrom 9 = .ok (.aload_n 1, 1) := by decide +kernel
theorem dX9_copyFrom_10 : decode cX9_copyFrom 10 = .ok (.getfield 26, 3) := by decide +kernel
theorem dX9_copyFrom_13 : decode cX9_copyFrom 13 = .ok (.putfield 26, 3) := by decide +kernel
theorem dX9_copyFrom_16 : decode cX9_copyFrom 16 = .ok (.aload_n 1, 1) := by decide +kernel
theorem dX9_copyFrom_17 : decode cX9_copyFrom 17 = .ok (.getfield 9, 3) := by decide +kernel
theorem dX9_copyFrom_20 : decode cX9_copyFrom 20 = .ok (.aload_n 0, 1) := by decide +kernel
theorem dX9_copyFrom_21 : decode cX9_copyFrom 21 = .ok (.getfield 9, 3) := by decide +kernel
theorem dX9_copyFrom_24 : decode cX9_copyFrom 24 = .ok (.invokestatic 52, 3) := by decide +kernel
theorem dX9_copyFrom_27 : decode cX9_copyFrom 27 = .ok (.aload_n 0, 1) := by decide +kernel
theorem dX9_copyFrom_28 : decode cX9_copyFrom 28 = .ok (.getfield 18, 3) := by decide +kernel
theorem dX9_copyFrom_31 : decode cX9_copyFrom 31 = .ok (.aload_n 1, 1) := by decide +kernel
theorem dX9_copyFrom_32 : decode cX9_copyFrom 32 = .ok (.getfield 18, 3) := by decide +kernel
theorem dX9_copyFrom_35 : decode cX9_copyFrom 35 = .ok (.invokevirtual 56, 3) := by decide +kernel
theorem dX9_copyFrom_38 : decode cX9_copyFrom 38 = .ok (.return_, 1) := by decide +kernel
theorem dX10_init_0 : decode cX10_init 0 = .ok (.aload_n 0, 1) := by decide +kernel
theorem dX10_init_1 : decode cX10_init 1 = .ok (.invokespecial 3, 3) := by decide +kernel
theorem dX10_init_4 : decode cX10_init 4 = .ok (.aload_n 0, 1) := by decide +kernel
theorem dX10_init_5 : decode cX10_init 5 = .ok (.bipush 30, 2) := by decide +kernel
theorem dX10_init_7 : decode cX10_init 7 = .ok (.newarray .int, 2) := by decide +kernel
theorem dX10_init_9 : decode cX10_init 9 = .ok (.putfield 9, 3) := by decide +kernel
theorem dX10_init_12 : decode cX10_init 12 = .ok (.aload_n 0, 1) := by decide +kernel
theorem dX10_init_13 : decode cX10_init 13 = .ok (.bipush 30, 2) := by decide +kernel
theorem dX10_init_15 : decode cX10_init 15 = .ok (.newarray .int, 2) := by decide +kernel
theorem dX10_init_17 : decode cX10_init 17 = .ok (.putfield 15, 3) := by decide +kernel
theorem dX10_init_20 : decode cX10_init 20 = .ok (.aload_n 0, 1) := by decide +kernel
theorem dX10_init_21 : decode cX10_init 21 = .ok (.bipush 30, 2) := by decide +kernel
theorem dX10_init_23 : decode cX10_init 23 = .ok (.newarray .int, 2) := by decide +kernel
theorem dX10_init_25 : decode cX10_init 25 = .ok (.putfield 18, 3) := by decide +kernel
theorem dX10_init_28 : decode cX10_init 28 = .ok (.return_, 1) := by decide +kernel
theorem dX10_has_0 : decode cX10_has 0 = .ok (.iload_n 1, 1) := by decide +kernel
theorem dX10_has_1 : decode cX10_has 1 = .ok (.ifCond .lt 21, 3) := by decide +kernel
theorem dX10_has_4 : decode cX10_has 4 = .ok (.iload_n 1, 1) := by decide +kernel
theorem dX10_has_5 : decode cX10_has 5 = .ok (.aload_n 0, 1) := by decide +kernel
theorem dX10_has_6 : decode cX10_has 6 = .ok (.getfield 21, 3) := by decide +kernel
theorem dX10_has_9 : decode cX10_has 9 = .ok (.if_icmp .ge 13, 3) := by decide +kernel
theorem dX10_has_12 : decode cX10_has 12 = .ok (.iload_n 1, 1) := by decide +kernel
theorem dX10_has_13 : decode cX10_has 13 = .ok (.bipush 30, 2) := by decide +kernel
theorem dX10_has_15 : decode cX10_has 15 = .ok (.if_icmp .ge 7, 3) := by decide +kernel
theorem dX10_has_18 : decode cX10_has 18 = .ok (.iconst 1, 1) := by decide +kernel
theorem dX10_has_19 : decode cX10_has 19 = .ok (.goto 4, 3) := by decide +kernel
theorem dX10_has_22 : decode cX10_has 22 = .ok (.iconst 0, 1) := by decide +kernel
theorem dX10_has_23 : decode cX10_has 23 = .ok (.ireturn, 1) := by decide +kernel
theorem dX10_append_0 : decode cX10_append 0 = .ok (.aload_n 0, 1) := by decide +kernel
theorem dX10_append_1 : decode cX10_append 1 = .ok (.getfield 21, 3) := by decide +kernel
theorem dX10_append_4 : decode cX10_append 4 = .ok (.bipush 30, 2) := by decide +kernel
theorem dX10_append_6 : decode cX10_append 6 = .ok (.if_icmp .lt 5, 3) := by decide +kernel
theorem dX10_append_9 : decode cX10_append 9 = .ok (.iconst (-1), 1) := by decide +kernel
theorem dX10_append_10 : decode cX10_append 10 = .ok (.ireturn, 1) := by decide +kernel
theorem dX10_append_11 : decode cX10_append 11 = .ok (.aload_n 0, 1) := by decide +kernel
theorem dX10_append_12 : decode cX10_append 12 = .ok (.getfield 21, 3) := by decide +kernel
theorem dX10_append_15 : decode cX10_append 15 = .ok (.istore 4, 2) := by decide +kernel
theorem dX10_append_17 : decode cX10_append 17 = .ok (.aload_n 0, 1) := by decide +kernel
theorem dX10_append_18 : decode cX10_append 18 = .ok (.getfield 9, 3) := by decide +kernel
theorem dX10_append_21 : decode cX10_append 21 = .ok (.iload 4, 2) := by decide +kernel
theorem dX10_append_23 : decode cX10_append 23 = .ok (.iload_n 1, 1) := by decide +kernel
theorem dX10_append_24 : decode cX10_append 24 = .ok (.iastore, 1) := by decide +kernel
theorem dX10_append_25 : decode cX10_append 25 = .ok (.aload_n 0, 1) := by decide +kernel
theorem dX10_append_26 : decode cX10_append 26 = .ok (.getfield 15, 3) := by decide +kernel
theorem dX10_append_29 : decode cX10_append 29 = .ok (.iload 4, 2) := by decide +kernel
theorem dX10_append_31 : decode cX10_append 31 = .ok (.iload_n 2, 1) := by decide +kernel
theorem dX10_append_32 : decode cX10_append 32 = .ok (.iastore, 1) := by decide +kernel
theorem dX10_append_33 : decode cX10_append 33 = .ok (.aload_n 0, 1) := by decide +kernel
theorem dX10_append_34 : decode cX10_append 34 = .ok (.getfield 18, 3) := by decide +kernel
theorem dX10_append_37 : decode cX10_append 37 = .ok (.iload 4, 2) := by decide +kernel
theorem dX10_append_39 : decode cX10_append 39 = .ok (.iload_n 3, 1) := by decide +kernel
theorem dX10_append_40 : decode cX10_append 40 = .ok (.iastore, 1) := by decide +kernel
theorem dX10_append_41 : decode cX10_append 41 = .ok (.aload_n 0, 1) := by decide +kernel
theorem dX10_append_42 : decode cX10_append 42 = .ok (.iload 4, 2) := by decide +kernel
theorem dX10_append_44 : decode cX10_append 44 = .ok (.iconst 1, 1) := by decide +kernel
theorem dX10_append_45 : decode cX10_append 45 = .ok (.iadd, 1) := by decide +kernel
theorem dX10_append_46 : decode cX10_append 46 = .ok (.putfield 21, 3) := by decide +kernel
theorem dX10_append_49 : decode cX10_append 49 = .ok (.iload 4, 2) := by decide +kernel
theorem dX10_append_51 : decode cX10_append 51 = .ok (.ireturn, 1) := by decide +kernel
set_option maxRecDepth 20000 in
theorem ggX10_composerOf_X10_has : GoodIn wsX10_composerOf wsX10_has := goodIn_r _ [6, 7, 8, 9, 10, 11] (by decide +kernel) (by decide +kernel)
set_option maxRecDepth 20000 in
theorem gX10_composerOf_X10_has : GoodIn wsX10_composerOf (wsV RX10 25 RX10 yX10_has wsX10_has) := goodIn_app (goodIn_of _ (by decide +kernel)) ggX10_composerOf_X10_has
theorem dX10_composerOf_0 : decode cX10_composerOf 0 = .ok (.aload_n 0, 1) := by decide +kernel
theorem dX10_composerOf_1 : decode cX10_composerOf 1 = .ok (.iload_n 1, 1) := by decide +kernel
theorem dX10_composerOf_2 : decode cX10_composerOf 2 = .ok (.invokevirtual 25, 3) := by decide +kernel
theorem dX10_composerOf_5 : decode cX10_composerOf 5 = .ok (.ifCond .eq 12, 3) := by decide +kernel
theorem dX10_composerOf_8 : decode cX10_composerOf 8 = .ok (.aload_n 0, 1) := by decide +kernel
theorem dX10_composerOf_9 : decode cX10_composerOf 9 = .ok (.getfield 9, 3) := by decide +kernel
theorem dX10_composerOf_12 : decode cX10_composerOf 12 = .ok (.iload_n 1, 1) := by decide +kernel
theorem dX10_composerOf_13 : decode cX10_composerOf 13 = .ok (.iaload, 1) := by decide +kernel
theorem dX10_composerOf_14 : decode cX10_composerOf 14 = .ok (.goto 4, 3) := by decide +kernel
theorem dX10_composerOf_17 : decode cX10_composerOf 17 = .ok (.iconst (-1), 1) := by decide +kernel
theorem dX10_composerOf_18 : decode cX10_composerOf 18 = .ok (.ireturn, 1) := by decide +kernel
set_option maxRecDepth 20000 in
theorem ggX10_eraOf_X10_has : GoodIn wsX10_eraOf wsX10_has := goodIn_r _ [6, 7, 8, 9, 10, 11] (by decide +kernel) (by decide +kernel)
set_option maxRecDepth 20000 in
theorem gX10_eraOf_X10_has : GoodIn wsX10_eraOf (wsV RX10 25 RX10 yX10_has wsX10_has) := goodIn_app (goodIn_of _ (by decide +kernel)) ggX10_eraOf_X10_has
theorem dX10_eraOf_0 : decode cX10_eraOf 0 = .ok (.aload_n 0, 1) := by decide +kernel
theorem dX10_eraOf_1 : decode cX10_eraOf 1 = .ok (.iload_n 1, 1) := by decide +kernel
theorem dX10_eraOf_2 : decode cX10_eraOf 2 = .ok (.invokevirtual 25, 3) := by decide +kernel
theorem dX10_eraOf_5 : decode cX10_eraOf 5 = .ok (.ifCond .eq 12, 3) := by decide +kernel
theorem dX10_eraOf_8 : decode cX10_eraOf 8 = .ok (.aload_n 0, 1) := by decide +kernel
theorem dX10_eraOf_9 : decode cX10_eraOf 9 = .ok (.getfield 15, 3) := by decide +kernel
theorem dX10_eraOf_12 : decode cX10_eraOf 12 = .ok (.iload_n 1, 1) := by decide +kernel
theorem dX10_eraOf_13 : decode cX10_eraOf 13 = .ok (.iaload, 1) := by decide +kernel
theorem dX10_eraOf_14 : decode cX10_eraOf 14 = .ok (.goto 4, 3) := by decide +kernel
theorem dX10_eraOf_17 : decode cX10_eraOf 17 = .ok (.iconst (-1), 1) := by decide +kernel
theorem dX10_eraOf_18 : decode cX10_eraOf 18 = .ok (.ireturn, 1) := by decide +kernel
set_option maxRecDepth 20000 in
theorem ggX10_minutesOf_X10_has : GoodIn wsX10_minutesOf wsX10_has := goodIn_r _ [6, 7, 8, 9, 10, 11] (by decide +kernel) (by decide +kernel)
set_option maxRecDepth 20000 in
theorem gX10_minutesOf_X10_has : GoodIn wsX10_minutesOf (wsV RX10 25 RX10 yX10_has wsX10_has) := goodIn_app (goodIn_of _ (by decide +kernel)) ggX10_minutesOf_X10_has
theorem dX10_minutesOf_0 : decode cX10_minutesOf 0 = .ok (.aload_n 0, 1) := by decide +kernel
theorem dX10_minutesOf_1 : decode cX10_minutesOf 1 = .ok (.iload_n 1, 1) := by decide +kernel
theorem dX10_minutesOf_2 : decode cX10_minutesOf 2 = .ok (.invokevirtual 25, 3) := by decide +kernel
theorem dX10_minutesOf_5 : decode cX10_minutesOf 5 = .ok (.ifCond .eq 12, 3) := by decide +kernel
theorem dX10_minutesOf_8 : decode cX10_minutesOf 8 = .ok (.aload_n 0, 1) := by decide +kernel
theorem dX10_minutesOf_9 : decode cX10_minutesOf 9 = .ok (.getfield 18, 3) := by decide +kernel
theorem dX10_minutesOf_12 : decode cX10_minutesOf 12 = .ok (.iload_n 1, 1) := by decide +kernel
theorem dX10_minutesOf_13 : decode cX10_minutesOf 13 = .ok (.iaload, 1) := by decide +kernel
theorem dX10_minutesOf_14 : decode cX10_minutesOf 14 = .ok (.goto 4, 3) := by decide +kernel
theorem dX10_minutesOf_17 : decode cX10_minutesOf 17 = .ok (.iconst 0, 1) := by decide +kernel
theorem dX10_minutesOf_18 : decode cX10_minutesOf 18 = .ok (.ireturn, 1) := by decide +kernel
set_option maxRecDepth 20000 in
theorem ggX10_fact_X10_composerOf : GoodIn wsX10_fact wsX10_composerOf := goodIn_r _ [5, 6, 7, 8, 9, 4, 10, 11, 22, 23, 24, 25] (by decide +kernel) (by decide +kernel)
set_option maxRecDepth 20000 in
theorem gX10_fact_X10_composerOf : GoodIn wsX10_fact (wsV RX10 29 RX10 yX10_composerOf wsX10_composerOf) := goodIn_app (goodIn_of _ (by decide +kernel)) ggX10_fact_X10_composerOf
set_option maxRecDepth 20000 in
theorem ggX10_fact_X10_eraOf : GoodIn wsX10_fact wsX10_eraOf := goodIn_r _ [15, 16, 7, 8, 9, 4, 10, 11, 22, 23, 24, 25] (by decide +kernel) (by decide +kernel)
set_option maxRecDepth 20000 in
theorem gX10_fact_X10_eraOf : GoodIn wsX10_fact (wsV RX10 33 RX10 yX10_eraOf wsX10_eraOf) := goodIn_app (goodIn_of _ (by decide +kernel)) ggX10_fact_X10_eraOf
set_option maxRecDepth 20000 in
theorem ggX10_fact_X10_minutesOf : GoodIn wsX10_fact wsX10_minutesOf := goodIn_r _ [20, 21, 7, 8, 9, 4, 10, 11, 22, 23, 24, 25] (by decide +kernel) (by decide +kernel)
set_option maxRecDepth 20000 in
theorem gX10_fact_X10_minutesOf : GoodIn wsX10_fact (wsV RX10 36 RX10 yX10_minutesOf wsX10_minutesOf) := goodIn_app (goodIn_of _ (by decide +kernel)) ggX10_fact_X10_minutesOf
theorem dX10_fact_0 : decode cX10_fact 0 = .ok (.iload_n 2, 1) := by decide +kernel
theorem dX10_fact_1 : decode cX10_fact 1 = .ok (.lookupswitch 39 #[(0, 27), (1, 33)], 27) := by decide +kernel
theorem dX10_fact_28 : decode cX10_fact 28 = .ok (.aload_n 0, 1) := by decide +kernel
theorem dX10_fact_29 : decode cX10_fact 29 = .ok (.iload_n 1, 1) := by decide +kernel
theorem dX10_fact_30 : decode cX10_fact 30 = .ok (.invokevirtual 29, 3) := by decide +kernel
theorem dX10_fact_33 : decode cX10_fact 33 = .ok (.ireturn, 1) := by decide +kernel
theorem dX10_fact_34 : decode cX10_fact 34 = .ok (.aload_n 0, 1) := by decide +kernel
theorem dX10_fact_35 : decode cX10_fact 35 = .ok (.iload_n 1, 1) := by decide +kernel
theorem dX10_fact_36 : decode cX10_fact 36 = .ok (.invokevirtual 33, 3) := by decide +kernel
theorem dX10_fact_39 : decode cX10_fact 39 = .ok (.ireturn, 1) := by decide +kernel
theorem dX10_fact_40 : decode cX10_fact 40 = .ok (.aload_n 0, 1) := by decide +kernel
theorem dX10_fact_41 : decode cX10_fact 41 = .ok (.iload_n 1, 1) := by decide +kernel
theorem dX10_fact_42 : decode cX10_fact 42 = .ok (.invokevirtual 36, 3) := by decide +kernel
theorem dX10_fact_45 : decode cX10_fact 45 = .ok (.ireturn, 1) := by decide +kernel
set_option maxRecDepth 20000 in
theorem ggX10_copyFrom_X11_copyRow : GoodIn wsX10_copyFrom wsX11_copyRow := goodIn_r _ [7, 8, 9, 10, 11, 12, 13, 14, 15] (by decide +kernel) (by decide +kernel)
set_option maxRecDepth 20000 in
theorem gX10_copyFrom_X11_copyRow_n39 : GoodIn wsX10_copyFrom (wsX11_copyRow) := ggX10_copyFrom_X11_copyRow
theorem dX10_copyFrom_0 : decode cX10_copyFrom 0 = .ok (.aload_n 0, 1) := by decide +kernel
theorem dX10_copyFrom_1 : decode cX10_copyFrom 1 = .ok (.aload_n 1, 1) := by decide +kernel
theorem dX10_copyFrom_2 : decode cX10_copyFrom 2 = .ok (.getfield 21, 3) := by decide +kernel
theorem dX10_copyFrom_5 : decode cX10_copyFrom 5 = .ok (.putfield 21, 3) := by decide +kernel
theorem dX10_copyFrom_8 : decode cX10_copyFrom 8 = .ok (.aload_n 1, 1) := by decide +kernel
theorem dX10_copyFrom_9 : decode cX10_copyFrom 9 = .ok (.getfield 9, 3) := by decide +kernel
theorem dX10_copyFrom_12 : decode cX10_copyFrom 12 = .ok (.aload_n 0, 1) := by decide +kernel
theorem dX10_copyFrom_13 : decode cX10_copyFrom 13 = .ok (.getfield 9, 3) := by decide +kernel
theorem dX10_copyFrom_16 : decode cX10_copyFrom 16 = .ok (.invokestatic 39, 3) := by decide +kernel
theorem dX10_copyFrom_19 : decode cX10_copyFrom 19 = .ok (.aload_n 1, 1) := by decide +kernel
theorem dX10_copyFrom_20 : decode cX10_copyFrom 20 = .ok (.getfield 15, 3) := by decide +kernel
theorem dX10_copyFrom_23 : decode cX10_copyFrom 23 = .ok (.aload_n 0, 1) := by decide +kernel
theorem dX10_copyFrom_24 : decode cX10_copyFrom 24 = .ok (.getfield 15, 3) := by decide +kernel
theorem dX10_copyFrom_27 : decode cX10_copyFrom 27 = .ok (.invokestatic 39, 3) := by decide +kernel
theorem dX10_copyFrom_30 : decode cX10_copyFrom 30 = .ok (.aload_n 1, 1) := by decide +kernel
theorem dX10_copyFrom_31 : decode cX10_copyFrom 31 = .ok (.getfield 18, 3) := by decide +kernel
theorem dX10_copyFrom_34 : decode cX10_copyFrom 34 = .ok (.aload_n 0, 1) := by decide +kernel
theorem dX10_copyFrom_35 : decode cX10_copyFrom 35 = .ok (.getfield 18, 3) := by decide +kernel
theorem dX10_copyFrom_38 : decode cX10_copyFrom 38 = .ok (.invokestatic 39, 3) := by decide +kernel
theorem dX10_copyFrom_41 : decode cX10_copyFrom 41 = .ok (.return_, 1) := by decide +kernel
set_option maxRecDepth 20000 in
theorem ggX11_init_X0_init : GoodIn wsX11_init wsX0_init := goodIn_r _ [18, 19, 2, 3, 20, 21, 22, 23, 24, 25, 26, 27, 28, 29, 30, 31, 32, 33, 34, 35, 36, 37, 38, 39, 40, 41, 42, 43, 44, 45, 46, 47, 48, 49, 50, 51, 52, 53, 54, 55, 56, 57, 58, 59, 60, 61, 62, 63, 64, 65, 66, 67, 68, 69, 70, 71, 72, 73, 74, 75, 76, 77, 78, 79, 80, 81, 82, 83, 84, 85, 86, 87, 88, 89, 90, 91, 92, 93, 94, 95, 96, 97, 98, 99, 100, 101, 102, 103, 104, 105, 106, 107, 108, 109, 110, 111, 112, 113, 114, 115, 116, 117, 118, 119, 120, 121, 122, 123, 124, 125, 126, 127, 128, 129, 130, 144, 145, 146, 147, 148, 149, 150, 151, 152, 153, 154, 155, 156, 157, 168, 169, 170, 171, 172, 173, 174, 175, 176, 177, 178, 179, 180, 181, 182, 183, 184, 185, 186, 187, 188, 189, 190, 191, 192] (by decide +kernel) (by decide +kernel)
set_option maxRecDepth 20000 in
theorem gX11_init_X0_init : GoodIn wsX11_init (wsX0_init) := ggX11_init_X0_init
set_option maxRecDepth 20000 in
theorem ggX11_init_X5_init : GoodIn wsX11_init wsX5_init := goodIn_r _ [133, 134, 2, 3, 135, 136, 5, 6, 137, 17, 18, 19, 20, 21, 22, 23, 24, 25, 26, 27, 28, 29, 30, 31, 32, 33, 34, 35, 36, 37, 38, 39, 40, 41, 42, 43, 44, 45, 46, 47, 48, 49, 50, 51, 52, 53, 54, 55, 56, 57, 58, 59, 60, 61, 62, 63, 64, 65, 66, 67, 68, 69, 70, 71, 72, 73, 74, 75, 76, 77, 78, 79, 80, 81, 82, 83, 84, 85, 86, 87, 88, 89, 90, 91, 92, 93, 94, 95, 96, 97, 98, 99, 100, 101, 102, 103, 104, 105, 106, 107, 108, 109, 110, 111, 112, 113, 114, 115, 116, 117, 118, 119, 120, 121, 122, 123, 124, 125, 126, 127, 128, 129, 130, 161, 162, 144, 145, 146, 147, 148, 149, 150, 151, 152, 153, 154, 155, 156, 157, 168, 169, 170, 171, 172, 173, 174, 175, 176, 177, 178, 179, 180, 181, 182, 183, 184, 185, 186, 187, 188, 189, 190, 191, 192] (by decide +kernel) (by decide +kernel)
set_option maxRecDepth 20000 in
theorem gX11_init_X5_init : GoodIn wsX11_init (wsX5_init) := ggX11_init_X5_init
set_option maxRecDepth 20000 in
theorem ggX11_init_X8_init : GoodIn wsX11_init wsX8_init := goodIn_r _ [139, 140, 2, 3, 32, 141, 142, 143, 163, 164, 165, 166, 167] (by decide +kernel) (by decide +kernel)
set_option maxRecDepth 20000 in
theorem gX11_init_X8_init_n25 : GoodIn wsX11_init (wsX8_init) := ggX11_init_X8_init
theorem dX11_init_0 : decode cX11_init 0 = .ok (.aload_n 0, 1) := by decide +kernel
theorem dX11_init_1 : decode cX11_init 1 = .ok (.invokespecial 1, 3) := by decide +kernel
theorem dX11_init_4 : decode cX11_init 4 = .ok (.aload_n 0, 1) := by decide +kernel
theorem dX11_init_5 : decode cX11_init 5 = .ok (.new 7, 3) := by decide +kernel
theorem dX11_init_8 : decode cX11_init 8 = .ok (.dup, 1) := by decide +kernel
theorem dX11_init_9 : decode cX11_init 9 = .ok (.invokespecial 9, 3) := by decide +kernel
theorem dX11_init_12 : decode cX11_init 12 = .ok (.putfield 10, 3) := by decide +kernel
theorem dX11_init_15 : decode cX11_init 15 = .ok (.aload_n 0, 1) := by decide +kernel
theorem dX11_init_16 : decode cX11_init 16 = .ok (.new 16, 3) := by decide +kernel
theorem dX11_init_19 : decode cX11_init 19 = .ok (.dup, 1) := by decide +kernel
theorem dX11_init_20 : decode cX11_init 20 = .ok (.invokespecial 18, 3) := by decide +kernel
theorem dX11_init_23 : decode cX11_init 23 = .ok (.putfield 19, 3) := by decide +kernel
theorem dX11_init_26 : decode cX11_init 26 = .ok (.aload_n 0, 1) := by decide +kernel
theorem dX11_init_27 : decode cX11_init 27 = .ok (.new 23, 3) := by decide +kernel
theorem dX11_init_30 : decode cX11_init 30 = .ok (.dup, 1) := by decide +kernel
theorem dX11_init_31 : decode cX11_init 31 = .ok (.invokespecial 25, 3) := by decide +kernel
theorem dX11_init_34 : decode cX11_init 34 = .ok (.putfield 26, 3) := by decide +kernel
theorem dX11_init_37 : decode cX11_init 37 = .ok (.return_, 1) := by decide +kernel
set_option maxRecDepth 20000 in
theorem ggX11_addWork_X11_isBetween : GoodIn wsX11_addWork wsX11_isBetween := goodIn_r _ [6] (by decide +kernel) (by decide +kernel)
set_option maxRecDepth 20000 in
theorem gX11_addWork_X11_isBetween : GoodIn wsX11_addWork (va_wsS RX11 30 yX11_isBetween wsX11_isBetween) := goodIn_app (goodIn_of _ (by decide +kernel)) ggX11_addWork_X11_isBetween
set_option maxRecDepth 20000 in
theorem ggX11_addWork_X11_requireArgument : GoodIn wsX11_addWork wsX11_requireArgument := goodIn_ca (goodIn_r _ [9, 10, 11] (by decide +kernel) (by decide +kernel)) (goodIn_sub (fun _ h => List.mem_cons_of_mem _ (List.mem_append_left _ (List.mem_append_right _ h))) (by decide +kernel))
set_option maxRecDepth 20000 in
theorem gX11_addWork_X11_requireArgument : GoodIn wsX11_addWork (va_wsS RX11 34 yX11_requireArgument wsX11_requireArgument) := goodIn_app (goodIn_of _ (by decide +kernel)) ggX11_addWork_X11_requireArgument
set_option maxRecDepth 20000 in
theorem ggX11_addWork_X11_requireState : GoodIn wsX11_addWork wsX11_requireState := goodIn_ca (goodIn_r _ [14, 15, 16] (by decide +kernel) (by decide +kernel)) (goodIn_sub (fun _ h => List.mem_cons_of_mem _ (List.mem_append_right _ h)) (by decide +kernel))
set_option maxRecDepth 20000 in
theorem gX11_addWork_X11_requireState : GoodIn wsX11_addWork (va_wsS RX11 51 yX11_requireState wsX11_requireState) := goodIn_app (goodIn_of _ (by decide +kernel)) ggX11_addWork_X11_requireState
set_option maxRecDepth 20000 in
theorem ggX11_addWork_X5_keep : GoodIn wsX11_addWork wsX5_keep := goodIn_r _ [21, 22, 23, 24, 25, 26, 20, 27, 28, 29, 30, 31, 32, 33, 34, 35, 36, 37, 38, 39, 40, 41, 42, 43, 44, 45, 46, 47, 48, 49, 50, 51, 52, 53, 54, 55, 5, 56, 57, 58, 59, 60, 61, 62, 63, 64, 65, 66, 67, 68, 69, 70, 71, 72, 73, 74, 75, 76, 77, 78, 79, 80, 81, 82, 83, 84, 85, 86, 87, 88, 89, 90, 91, 92, 93, 94, 95, 96, 97, 98, 99, 100, 101, 102, 103, 104, 105, 106, 107, 108, 109, 110, 111, 112, 138, 139, 120, 121, 122, 123, 124, 125, 126, 127, 128, 129, 130, 131, 132, 133, 134, 135, 136, 137, 140, 141, 142, 143, 144, 145, 146, 147, 148, 149, 150, 151, 152, 153, 154] (by decide +kernel) (by decide +kernel)
set_option maxRecDepth 20000 in
theorem gX11_addWork_X5_keep : GoodIn wsX11_addWork (wsV RX11 54 RX5 yX5_keep wsX5_keep) := goodIn_app (goodIn_of _ (by decide +kernel)) ggX11_addWork_X5_keep
set_option maxRecDepth 20000 in
theorem ggX11_addWork_X10_append : GoodIn wsX11_addWork wsX10_append := goodIn_r _ [116, 51, 52, 53, 54, 134, 135, 136, 137] (by decide +kernel) (by decide +kernel)
set_option maxRecDepth 20000 in
theorem gX11_addWork_X10_append : GoodIn wsX11_addWork (wsV RX11 58 RX10 yX10_append wsX10_append) := goodIn_app (goodIn_of _ (by decide +kernel)) ggX11_addWork_X10_append
theorem dX11_addWork_0 : decode cX11_addWork 0 = .ok (.iload_n 1, 1) := by decide +kernel
theorem dX11_addWork_1 : decode cX11_addWork 1 = .ok (.iconst 0, 1) := by decide +kernel
theorem dX11_addWork_2 : decode cX11_addWork 2 = .ok (.bipush 9, 2) := by decide +kernel
theorem dX11_addWork_4 : decode cX11_addWork 4 = .ok (.invokestatic 30, 3) := by decide +kernel
theorem dX11_addWork_7 : decode cX11_addWork 7 = .ok (.invokestatic 34, 3) := by decide +kernel
theorem dX11_addWork_10 : decode cX11_addWork 10 = .ok (.iload_n 2, 1) := by decide +kernel
theorem dX11_addWork_11 : decode cX11_addWork 11 = .ok (.iconst 0, 1) := by decide +kernel
theorem dX11_addWork_12 : decode cX11_addWork 12 = .ok (.iconst 4, 1) := by decide +kernel
theorem dX11_addWork_13 : decode cX11_addWork 13 = .ok (.invokestatic 30, 3) := by decide +kernel
theorem dX11_addWork_16 : decode cX11_addWork 16 = .ok (.invokestatic 34, 3) := by decide +kernel
theorem dX11_addWork_19 : decode cX11_addWork 19 = .ok (.iload_n 3, 1) := by decide +kernel
theorem dX11_addWork_20 : decode cX11_addWork 20 = .ok (.iconst 1, 1) := by decide +kernel
theorem dX11_addWork_21 : decode cX11_addWork 21 = .ok (.bipush 60, 2) := by decide +kernel
theorem dX11_addWork_23 : decode cX11_addWork 23 = .ok (.invokestatic 30, 3) := by decide +kernel
theorem dX11_addWork_26 : decode cX11_addWork 26 = .ok (.invokestatic 34, 3) := by decide +kernel
theorem dX11_addWork_29 : decode cX11_addWork 29 = .ok (.aload_n 0, 1) := by decide +kernel
theorem dX11_addWork_30 : decode cX11_addWork 30 = .ok (.getfield 10, 3) := by decide +kernel
theorem dX11_addWork_33 : decode cX11_addWork 33 = .ok (.getfield 38, 3) := by decide +kernel
theorem dX11_addWork_36 : decode cX11_addWork 36 = .ok (.ifCond .ne 22, 3) := by decide +kernel
theorem dX11_addWork_39 : decode cX11_addWork 39 = .ok (.aload_n 0, 1) := by decide +kernel
theorem dX11_addWork_40 : decode cX11_addWork 40 = .ok (.getfield 10, 3) := by decide +kernel
theorem dX11_addWork_43 : decode cX11_addWork 43 = .ok (.getfield 42, 3) := by decide +kernel
theorem dX11_addWork_46 : decode cX11_addWork 46 = .ok (.getfield 46, 3) := by decide +kernel
theorem dX11_addWork_49 : decode cX11_addWork 49 = .ok (.bipush 30, 2) := by decide +kernel
theorem dX11_addWork_51 : decode cX11_addWork 51 = .ok (.if_icmp .ge 7, 3) := by decide +kernel
theorem dX11_addWork_54 : decode cX11_addWork 54 = .ok (.iconst 1, 1) := by decide +kernel
theorem dX11_addWork_55 : decode cX11_addWork 55 = .ok (.goto 4, 3) := by decide +kernel
theorem dX11_addWork_58 : decode cX11_addWork 58 = .ok (.iconst 0, 1) := by decide +kernel
theorem dX11_addWork_59 : decode cX11_addWork 59 = .ok (.invokestatic 51, 3) := by decide +kernel
theorem dX11_addWork_62 : decode cX11_addWork 62 = .ok (.aload_n 0, 1) := by decide +kernel
theorem dX11_addWork_63 : decode cX11_addWork 63 = .ok (.getfield 19, 3) := by decide +kernel
theorem dX11_addWork_66 : decode cX11_addWork 66 = .ok (.aload_n 0, 1) := by decide +kernel
theorem dX11_addWork_67 : decode cX11_addWork 67 = .ok (.getfield 10, 3) := by decide +kernel
theorem dX11_addWork_70 : decode cX11_addWork 70 = .ok (.invokevirtual 54, 3) := by decide +kernel
theorem dX11_addWork_73 : decode cX11_addWork 73 = .ok (.aload_n 0, 1) := by decide +kernel
theorem dX11_addWork_74 : decode cX11_addWork 74 = .ok (.getfield 10, 3) := by decide +kernel
theorem dX11_addWork_77 : decode cX11_addWork 77 = .ok (.getfield 42, 3) := by decide +kernel
theorem dX11_addWork_80 : decode cX11_addWork 80 = .ok (.iload_n 1, 1) := by decide +kernel
theorem dX11_addWork_81 : decode cX11_addWork 81 = .ok (.iload_n 2, 1) := by decide +kernel
theorem dX11_addWork_82 : decode cX11_addWork 82 = .ok (.iload_n 3, 1) := by decide +kernel
theorem dX11_addWork_83 : decode cX11_addWork 83 = .ok (.invokevirtual 58, 3) := by decide +kernel
theorem dX11_addWork_86 : decode cX11_addWork 86 = .ok (.ireturn, 1) := by decide +kernel
set_option maxRecDepth 20000 in
theorem ggX11_work_X10_has : GoodIn wsX11_work wsX10_has := goodIn_r _ [6, 7, 59, 60, 61, 62] (by decide +kernel) (by decide +kernel)
set_option maxRecDepth 20000 in
theorem gX11_work_X10_has : GoodIn wsX11_work (wsV RX11 62 RX10 yX10_has wsX10_has) := goodIn_app (goodIn_of _ (by decide +kernel)) ggX11_work_X10_has
set_option maxRecDepth 20000 in
theorem ggX11_work_X11_requireIndex : GoodIn wsX11_work wsX11_requireIndex := goodIn_ca (goodIn_r _ [11, 12, 13] (by decide +kernel) (by decide +kernel)) (goodIn_sub (fun _ h => List.mem_cons_of_mem _ (List.mem_append_left _ (List.mem_append_right _ h))) (by decide +kernel))
set_option maxRecDepth 20000 in
theorem gX11_work_X11_requireIndex : GoodIn wsX11_work (va_wsS RX11 66 yX11_requireIndex wsX11_requireIndex) := goodIn_app (goodIn_of _ (by decide +kernel)) ggX11_work_X11_requireIndex
set_option maxRecDepth 20000 in
theorem ggX11_work_X11_isBetween : GoodIn wsX11_work wsX11_isBetween := goodIn_r _ [16] (by decide +kernel) (by decide +kernel)
set_option maxRecDepth 20000 in
theorem gX11_work_X11_isBetween : GoodIn wsX11_work (va_wsS RX11 30 yX11_isBetween wsX11_isBetween) := goodIn_app (goodIn_of _ (by decide +kernel)) ggX11_work_X11_isBetween
set_option maxRecDepth 20000 in
theorem ggX11_work_X11_requireArgument : GoodIn wsX11_work wsX11_requireArgument := goodIn_ca (goodIn_r _ [19, 20, 21] (by decide +kernel) (by decide +kernel)) (goodIn_sub (fun _ h => List.mem_cons_of_mem _ (List.mem_append_right _ h)) (by decide +kernel))
set_option maxRecDepth 20000 in
theorem gX11_work_X11_requireArgument : GoodIn wsX11_work (va_wsS RX11 34 yX11_requireArgument wsX11_requireArgument) := goodIn_app (goodIn_of _ (by decide +kernel)) ggX11_work_X11_requireArgument
set_option maxRecDepth 20000 in
theorem ggX11_work_X10_fact : GoodIn wsX11_work wsX10_fact := goodIn_r _ [25, 26, 27, 28, 5, 29, 30, 31, 3, 4, 6, 7, 32, 33, 34, 35, 36, 37, 38, 39, 40, 41, 59, 60, 61, 62] (by decide +kernel) (by decide +kernel)
set_option maxRecDepth 20000 in
theorem gX11_work_X10_fact : GoodIn wsX11_work (wsV RX11 69 RX10 yX10_fact wsX10_fact) := goodIn_app (goodIn_of _ (by decide +kernel)) ggX11_work_X10_fact
theorem dX11_work_0 : decode cX11_work 0 = .ok (.aload_n 0, 1) := by decide +kernel
theorem dX11_work_1 : decode cX11_work 1 = .ok (.getfield 10, 3) := by decide +kernel
theorem dX11_work_4 : decode cX11_work 4 = .ok (.getfield 42, 3) := by decide +kernel
theorem dX11_work_7 : decode cX11_work 7 = .ok (.iload_n 1, 1) := by decide +kernel
theorem dX11_work_8 : decode cX11_work 8 = .ok (.invokevirtual 62, 3) := by decide +kernel
theorem dX11_work_11 : decode cX11_work 11 = .ok (.invokestatic 66, 3) := by decide +kernel
theorem dX11_work_14 : decode cX11_work 14 = .ok (.iload_n 2, 1) := by decide +kernel
theorem dX11_work_15 : decode cX11_work 15 = .ok (.iconst 0, 1) := by decide +kernel
theorem dX11_work_16 : decode cX11_work 16 = .ok (.iconst 2, 1) := by decide +kernel
theorem dX11_work_17 : decode cX11_work 17 = .ok (.invokestatic 30, 3) := by decide +kernel
theorem dX11_work_20 : decode cX11_work 20 = .ok (.invokestatic 34, 3) := by decide +kernel
theorem dX11_work_23 : decode cX11_work 23 = .ok (.aload_n 0, 1) := by decide +kernel
theorem dX11_work_24 : decode cX11_work 24 = .ok (.getfield 10, 3) := by decide +kernel
theorem dX11_work_27 : decode cX11_work 27 = .ok (.getfield 42, 3) := by decide +kernel
theorem dX11_work_30 : decode cX11_work 30 = .ok (.iload_n 1, 1) := by decide +kernel
theorem dX11_work_31 : decode cX11_work 31 = .ok (.iload_n 2, 1) := by decide +kernel
theorem dX11_work_32 : decode cX11_work 32 = .ok (.invokevirtual 69, 3) := by decide +kernel
theorem dX11_work_35 : decode cX11_work 35 = .ok (.ireturn, 1) := by decide +kernel
set_option maxRecDepth 20000 in
theorem ggX11_addEntrant_X11_requireState : GoodIn wsX11_addEntrant wsX11_requireState := goodIn_ca (goodIn_r _ [6, 7, 8] (by decide +kernel) (by decide +kernel)) (goodIn_sub (fun _ h => List.mem_cons_of_mem _ (List.mem_append_right _ h)) (by decide +kernel))
set_option maxRecDepth 20000 in
theorem gX11_addEntrant_X11_requireState : GoodIn wsX11_addEntrant (va_wsS RX11 51 yX11_requireState wsX11_requireState) := goodIn_app (goodIn_of _ (by decide +kernel)) ggX11_addEntrant_X11_requireState
set_option maxRecDepth 20000 in
theorem ggX11_addEntrant_X5_keep : GoodIn wsX11_addEntrant wsX5_keep := goodIn_r _ [13, 14, 15, 16, 17, 18, 12, 19, 20, 21, 22, 23, 24, 25, 26, 27, 28, 29, 30, 31, 32, 33, 34, 35, 36, 37, 38, 39, 40, 41, 42, 43, 44, 45, 46, 47, 5, 48, 49, 50, 51, 52, 53, 54, 55, 56, 57, 58, 59, 60, 61, 62, 63, 64, 65, 66, 67, 68, 69, 70, 71, 72, 73, 74, 75, 76, 77, 78, 79, 80, 81, 82, 83, 84, 85, 86, 87, 88, 89, 90, 91, 92, 93, 94, 95, 96, 97, 98, 99, 100, 101, 102, 103, 104, 128, 129, 112, 113, 114, 115, 116, 117, 118, 119, 120, 121, 122, 123, 124, 125, 130, 131, 132, 133, 126, 127, 134, 135, 136, 137, 138, 139, 140, 141, 142, 143, 144, 145, 146] (by decide +kernel) (by decide +kernel)
set_option maxRecDepth 20000 in
theorem gX11_addEntrant_X5_keep : GoodIn wsX11_addEntrant (wsV RX11 54 RX5 yX5_keep wsX5_keep) := goodIn_app (goodIn_of _ (by decide +kernel)) ggX11_addEntrant_X5_keep
set_option maxRecDepth 20000 in
theorem ggX11_addEntrant_X2_append : GoodIn wsX11_addEntrant wsX2_append := goodIn_r _ [108, 62, 63, 126, 127] (by decide +kernel) (by decide +kernel)
set_option maxRecDepth 20000 in
theorem gX11_addEntrant_X2_append : GoodIn wsX11_addEntrant (wsV RX11 80 RX2 yX2_append wsX2_append) := goodIn_app (goodIn_of _ (by decide +kernel)) ggX11_addEntrant_X2_append
theorem dX11_addEntrant_0 : decode cX11_addEntrant 0 = .ok (.aload_n 0, 1) := by decide +kernel
theorem dX11_addEntrant_1 : decode cX11_addEntrant 1 = .ok (.getfield 10, 3) := by decide +kernel
theorem dX11_addEntrant_4 : decode cX11_addEntrant 4 = .ok (.getfield 38, 3) := by decide +kernel
theorem dX11_addEntrant_7 : decode cX11_addEntrant 7 = .ok (.ifCond .ne 22, 3) := by decide +kernel
theorem dX11_addEntrant_10 : decode cX11_addEntrant 10 = .ok (.aload_n 0, 1) := by decide +kernel
theorem dX11_addEntrant_11 : decode cX11_addEntrant 11 = .ok (.getfield 10, 3) := by decide +kernel
theorem dX11_addEntrant_14 : decode cX11_addEntrant 14 = .ok (.getfield 73, 3) := by decide +kernel
theorem dX11_addEntrant_17 : decode cX11_addEntrant 17 = .ok (.getfield 77, 3) := by decide +kernel
theorem dX11_addEntrant_20 : decode cX11_addEntrant 20 = .ok (.bipush 12, 2) := by decide +kernel
theorem dX11_addEntrant_22 : decode cX11_addEntrant 22 = .ok (.if_icmp .ge 7, 3) := by decide +kernel
theorem dX11_addEntrant_25 : decode cX11_addEntrant 25 = .ok (.iconst 1, 1) := by decide +kernel
theorem dX11_addEntrant_26 : decode cX11_addEntrant 26 = .ok (.goto 4, 3) := by decide +kernel
theorem dX11_addEntrant_29 : decode cX11_addEntrant 29 = .ok (.iconst 0, 1) := by decide +kernel
theorem dX11_addEntrant_30 : decode cX11_addEntrant 30 = .ok (.invokestatic 51, 3) := by decide +kernel
theorem dX11_addEntrant_33 : decode cX11_addEntrant 33 = .ok (.aload_n 0, 1) := by decide +kernel
theorem dX11_addEntrant_34 : decode cX11_addEntrant 34 = .ok (.getfield 19, 3) := by decide +kernel
theorem dX11_addEntrant_37 : decode cX11_addEntrant 37 = .ok (.aload_n 0, 1) := by decide +kernel
theorem dX11_addEntrant_38 : decode cX11_addEntrant 38 = .ok (.getfield 10, 3) := by decide +kernel
theorem dX11_addEntrant_41 : decode cX11_addEntrant 41 = .ok (.invokevirtual 54, 3) := by decide +kernel
theorem dX11_addEntrant_44 : decode cX11_addEntrant 44 = .ok (.aload_n 0, 1) := by decide +kernel
theorem dX11_addEntrant_45 : decode cX11_addEntrant 45 = .ok (.getfield 10, 3) := by decide +kernel
theorem dX11_addEntrant_48 : decode cX11_addEntrant 48 = .ok (.getfield 73, 3) := by decide +kernel
theorem dX11_addEntrant_51 : decode cX11_addEntrant 51 = .ok (.invokevirtual 80, 3) := by decide +kernel
theorem dX11_addEntrant_54 : decode cX11_addEntrant 54 = .ok (.ireturn, 1) := by decide +kernel
set_option maxRecDepth 20000 in
theorem ggX11_bar_X11_requireJurorAndEntrant : GoodIn wsX11_bar wsX11_requireJurorAndEntrant := goodIn_ca (goodIn_r _ [7, 2, 8, 9, 10, 11, 12, 13, 14, 15, 6, 16, 17, 18, 19, 20, 21, 22, 23, 24, 25, 26, 27, 28, 129, 130, 131, 132, 133, 134, 135, 136, 137, 138, 139, 140, 141, 142, 143, 144, 145, 146, 147, 148, 149] (by decide +kernel) (by decide +kernel)) (goodIn_sub (fun _ h => List.mem_cons_of_mem _ (List.mem_append_right _ h)) (by decide +kernel))
set_option maxRecDepth 20000 in
theorem gX11_bar_X11_requireJurorAndEntrant : GoodIn wsX11_bar (wsV RX11 83 RX11 yX11_requireJurorAndEntrant wsX11_requireJurorAndEntrant) := goodIn_app (goodIn_of _ (by decide +kernel)) ggX11_bar_X11_requireJurorAndEntrant
set_option maxRecDepth 20000 in
theorem ggX11_bar_X5_keep : GoodIn wsX11_bar wsX5_keep := goodIn_r _ [33, 34, 35, 36, 37, 38, 32, 39, 40, 41, 42, 43, 44, 45, 46, 47, 48, 49, 50, 51, 52, 53, 54, 55, 56, 57, 58, 59, 60, 61, 62, 63, 64, 65, 66, 67, 6, 68, 69, 70, 71, 72, 73, 74, 75, 76, 77, 78, 79, 26, 80, 28, 81, 82, 83, 84, 85, 86, 87, 88, 89, 90, 91, 92, 11, 93, 13, 94, 95, 96, 97, 98, 99, 100, 101, 102, 103, 104, 105, 106, 107, 108, 109, 110, 111, 112, 113, 114, 115, 116, 117, 118, 119, 120, 150, 151, 132, 133, 134, 135, 136, 137, 138, 139, 140, 141, 142, 143, 144, 145, 152, 153, 154, 155, 148, 149, 156, 146, 147, 157, 158, 159, 160, 161, 162, 163, 164, 165, 166] (by decide +kernel) (by decide +kernel)
set_option maxRecDepth 20000 in
theorem gX11_bar_X5_keep : GoodIn wsX11_bar (wsV RX11 54 RX5 yX5_keep wsX5_keep) := goodIn_app (goodIn_of _ (by decide +kernel)) ggX11_bar_X5_keep
set_option maxRecDepth 20000 in
theorem ggX11_bar_X3_isBarred : GoodIn wsX11_bar wsX3_isBarred := goodIn_r _ [124, 94, 146, 147] (by decide +kernel) (by decide +kernel)
set_option maxRecDepth 20000 in
theorem gX11_bar_X3_isBarred : GoodIn wsX11_bar (wsV RX11 91 RX3 yX3_isBarred wsX3_isBarred) := goodIn_app (goodIn_of _ (by decide +kernel)) ggX11_bar_X3_isBarred
set_option maxRecDepth 20000 in
theorem ggX11_bar_X3_setBarred : GoodIn wsX11_bar wsX3_setBarred := goodIn_r _ [128, 94, 146, 147] (by decide +kernel) (by decide +kernel)
set_option maxRecDepth 20000 in
theorem gX11_bar_X3_setBarred : GoodIn wsX11_bar (wsV RX11 97 RX3 yX3_setBarred wsX3_setBarred) := goodIn_app (goodIn_of _ (by decide +kernel)) ggX11_bar_X3_setBarred
theorem dX11_bar_0 : decode cX11_bar 0 = .ok (.aload_n 0, 1) := by decide +kernel
theorem dX11_bar_1 : decode cX11_bar 1 = .ok (.iload_n 1, 1) := by decide +kernel
theorem dX11_bar_2 : decode cX11_bar 2 = .ok (.iload_n 2, 1) := by decide +kernel
theorem dX11_bar_3 : decode cX11_bar 3 = .ok (.invokevirtual 83, 3) := by decide +kernel
theorem dX11_bar_6 : decode cX11_bar 6 = .ok (.aload_n 0, 1) := by decide +kernel
theorem dX11_bar_7 : decode cX11_bar 7 = .ok (.getfield 19, 3) := by decide +kernel
theorem dX11_bar_10 : decode cX11_bar 10 = .ok (.aload_n 0, 1) := by decide +kernel
theorem dX11_bar_11 : decode cX11_bar 11 = .ok (.getfield 10, 3) := by decide +kernel
theorem dX11_bar_14 : decode cX11_bar 14 = .ok (.invokevirtual 54, 3) := by decide +kernel
theorem dX11_bar_17 : decode cX11_bar 17 = .ok (.aload_n 0, 1) := by decide +kernel
theorem dX11_bar_18 : decode cX11_bar 18 = .ok (.getfield 10, 3) := by decide +kernel
theorem dX11_bar_21 : decode cX11_bar 21 = .ok (.getfield 87, 3) := by decide +kernel
theorem dX11_bar_24 : decode cX11_bar 24 = .ok (.iload_n 1, 1) := by decide +kernel
theorem dX11_bar_25 : decode cX11_bar 25 = .ok (.iload_n 2, 1) := by decide +kernel
theorem dX11_bar_26 : decode cX11_bar 26 = .ok (.invokevirtual 91, 3) := by decide +kernel
theorem dX11_bar_29 : decode cX11_bar 29 = .ok (.istore 4, 2) := by decide +kernel
theorem dX11_bar_31 : decode cX11_bar 31 = .ok (.aload_n 0, 1) := by decide +kernel
theorem dX11_bar_32 : decode cX11_bar 32 = .ok (.getfield 10, 3) := by decide +kernel
theorem dX11_bar_35 : decode cX11_bar 35 = .ok (.getfield 87, 3) := by decide +kernel
theorem dX11_bar_38 : decode cX11_bar 38 = .ok (.iload_n 1, 1) := by decide +kernel
theorem dX11_bar_39 : decode cX11_bar 39 = .ok (.iload_n 2, 1) := by decide +kernel
theorem dX11_bar_40 : decode cX11_bar 40 = .ok (.iload_n 3, 1) := by decide +kernel
theorem dX11_bar_41 : decode cX11_bar 41 = .ok (.invokevirtual 97, 3) := by decide +kernel
theorem dX11_bar_44 : decode cX11_bar 44 = .ok (.iload 4, 2) := by decide +kernel
theorem dX11_bar_46 : decode cX11_bar 46 = .ok (.ireturn, 1) := by decide +kernel
set_option maxRecDepth 20000 in
theorem ggX11_set_X11_isBetween : GoodIn wsX11_set wsX11_isBetween := goodIn_r _ [8] (by decide +kernel) (by decide +kernel)
set_option maxRecDepth 20000 in
theorem gX11_set_X11_isBetween : GoodIn wsX11_set (va_wsS RX11 30 yX11_isBetween wsX11_isBetween) := goodIn_app (goodIn_of _ (by decide +kernel)) ggX11_set_X11_isBetween
set_option maxRecDepth 20000 in
theorem ggX11_set_X11_requireArgument : GoodIn wsX11_set wsX11_requireArgument := goodIn_ca (goodIn_r _ [11, 12, 13] (by decide +kernel) (by decide +kernel)) (goodIn_sub (fun _ h => List.mem_cons_of_mem _ (List.mem_append_left _ (List.mem_append_right _ h))) (by decide +kernel))
set_option maxRecDepth 20000 in
theorem gX11_set_X11_requireArgument : GoodIn wsX11_set (va_wsS RX11 34 yX11_requireArgument wsX11_requireArgument) := goodIn_app (goodIn_of _ (by decide +kernel)) ggX11_set_X11_requireArgument
set_option maxRecDepth 20000 in
theorem ggX11_set_X11_requireState : GoodIn wsX11_set wsX11_requireState := goodIn_ca (goodIn_r _ [16, 17, 18] (by decide +kernel) (by decide +kernel)) (goodIn_sub (fun _ h => List.mem_cons_of_mem _ (List.mem_append_right _ h)) (by decide +kernel))
set_option maxRecDepth 20000 in
theorem gX11_set_X11_requireState : GoodIn wsX11_set (va_wsS RX11 51 yX11_requireState wsX11_requireState) := goodIn_app (goodIn_of _ (by decide +kernel)) ggX11_set_X11_requireState
set_option maxRecDepth 20000 in
theorem ggX11_set_X5_keep : GoodIn wsX11_set wsX5_keep := goodIn_r _ [23, 24, 25, 26, 27, 28, 22, 29, 30, 31, 32, 33, 34, 35, 36, 37, 38, 39, 40, 41, 42, 43, 44, 45, 46, 47, 48, 49, 50, 51, 52, 53, 54, 55, 56, 57, 7, 58, 59, 60, 61, 62, 63, 64, 65, 66, 67, 68, 69, 70, 71, 72, 73, 74, 75, 76, 77, 78, 79, 80, 81, 82, 83, 84, 85, 86, 87, 88, 89, 90, 91, 92, 93, 94, 95, 96, 97, 98, 99, 100, 101, 102, 103, 104, 105, 106, 107, 108, 109, 110, 111, 112, 113, 114, 156, 157, 142, 143, 144, 145, 146, 147, 148, 149, 150, 151, 152, 153, 154, 155, 158, 159, 160, 161, 162, 163, 164, 165, 166, 167, 168, 169, 170, 171, 172, 173, 174, 175, 176] (by decide +kernel) (by decide +kernel)
set_option maxRecDepth 20000 in
theorem gX11_set_X5_keep : GoodIn wsX11_set (wsV RX11 54 RX5 yX5_keep wsX5_keep) := goodIn_app (goodIn_of _ (by decide +kernel)) ggX11_set_X5_keep
set_option maxRecDepth 20000 in
theorem ggX11_set_X0_tell : GoodIn wsX11_set wsX0_tell := goodIn_r _ [118, 43, 37, 38, 35, 36, 39, 40, 44, 46, 119, 120, 121, 70, 122, 72, 123, 124, 125, 126, 73, 127, 128, 129, 130, 131, 132, 133, 108, 134, 112, 142, 143, 144, 145, 146, 147, 148, 149, 150, 151, 152, 153, 154, 155, 165, 166, 158, 159, 160, 161, 162, 163, 167, 168, 169, 170, 171, 173, 174, 175, 176] (by decide +kernel) (by decide +kernel)
set_option maxRecDepth 20000 in
theorem gX11_set_X0_tell : GoodIn wsX11_set (wsV RX11 108 RX0 yX0_tell wsX0_tell) := goodIn_app (goodIn_of _ (by decide +kernel)) ggX11_set_X0_tell
set_option maxRecDepth 20000 in
theorem ggX11_set_X0_change : GoodIn wsX11_set wsX0_change := goodIn_r _ [138, 43, 37, 38, 142, 143, 144, 145, 146, 147, 148, 149, 150, 151, 152, 153, 154, 155, 165, 166] (by decide +kernel) (by decide +kernel)
set_option maxRecDepth 20000 in
theorem gX11_set_X0_change : GoodIn wsX11_set (wsV RX11 112 RX0 yX0_change wsX0_change) := goodIn_app (goodIn_of _ (by decide +kernel)) ggX11_set_X0_change
theorem dX11_set_0 : decode cX11_set 0 = .ok (.iload_n 1, 1) := by decide +kernel
theorem dX11_set_1 : decode cX11_set 1 = .ok (.iconst 0, 1) := by decide +kernel
theorem dX11_set_2 : decode cX11_set 2 = .ok (.iconst 2, 1) := by decide +kernel
theorem dX11_set_3 : decode cX11_set 3 = .ok (.invokestatic 30, 3) := by decide +kernel
theorem dX11_set_6 : decode cX11_set 6 = .ok (.invokestatic 34, 3) := by decide +kernel
theorem dX11_set_9 : decode cX11_set 9 = .ok (.iload_n 2, 1) := by decide +kernel
theorem dX11_set_10 : decode cX11_set 10 = .ok (.getstatic 101, 3) := by decide +kernel
theorem dX11_set_13 : decode cX11_set 13 = .ok (.iload_n 1, 1) := by decide +kernel
theorem dX11_set_14 : decode cX11_set 14 = .ok (.iaload, 1) := by decide +kernel
theorem dX11_set_15 : decode cX11_set 15 = .ok (.getstatic 105, 3) := by decide +kernel
theorem dX11_set_18 : decode cX11_set 18 = .ok (.iload_n 1, 1) := by decide +kernel
theorem dX11_set_19 : decode cX11_set 19 = .ok (.iaload, 1) := by decide +kernel
theorem dX11_set_20 : decode cX11_set 20 = .ok (.invokestatic 30, 3) := by decide +kernel
theorem dX11_set_23 : decode cX11_set 23 = .ok (.invokestatic 34, 3) := by decide +kernel
theorem dX11_set_26 : decode cX11_set 26 = .ok (.iload_n 1, 1) := by decide +kernel
theorem dX11_set_27 : decode cX11_set 27 = .ok (.iconst 2, 1) := by decide +kernel
theorem dX11_set_28 : decode cX11_set 28 = .ok (.if_icmp .eq 13, 3) := by decide +kernel
theorem dX11_set_31 : decode cX11_set 31 = .ok (.aload_n 0, 1) := by decide +kernel
theorem dX11_set_32 : decode cX11_set 32 = .ok (.getfield 10, 3) := by decide +kernel
theorem dX11_set_35 : decode cX11_set 35 = .ok (.getfield 38, 3) := by decide +kernel
theorem dX11_set_38 : decode cX11_set 38 = .ok (.ifCond .ne 7, 3) := by decide +kernel
theorem dX11_set_41 : decode cX11_set 41 = .ok (.iconst 1, 1) := by decide +kernel
theorem dX11_set_42 : decode cX11_set 42 = .ok (.goto 4, 3) := by decide +kernel
theorem dX11_set_45 : decode cX11_set 45 = .ok (.iconst 0, 1) := by decide +kernel
theorem dX11_set_46 : decode cX11_set 46 = .ok (.invokestatic 51, 3) := by decide +kernel
theorem dX11_set_49 : decode cX11_set 49 = .ok (.aload_n 0, 1) := by decide +kernel
theorem dX11_set_50 : decode cX11_set 50 = .ok (.getfield 19, 3) := by decide +kernel
theorem dX11_set_53 : decode cX11_set 53 = .ok (.aload_n 0, 1) := by decide +kernel
theorem dX11_set_54 : decode cX11_set 54 = .ok (.getfield 10, 3) := by decide +kernel
theorem dX11_set_57 : decode cX11_set 57 = .ok (.invokevirtual 54, 3) := by decide +kernel
theorem dX11_set_60 : decode cX11_set 60 = .ok (.aload_n 0, 1) := by decide +kernel
theorem dX11_set_61 : decode cX11_set 61 = .ok (.getfield 10, 3) := by decide +kernel
theorem dX11_set_64 : decode cX11_set 64 = .ok (.iload_n 1, 1) := by decide +kernel
theorem dX11_set_65 : decode cX11_set 65 = .ok (.invokevirtual 108, 3) := by decide +kernel
theorem dX11_set_68 : decode cX11_set 68 = .ok (.istore_n 3, 1) := by decide +kernel
theorem dX11_set_69 : decode cX11_set 69 = .ok (.aload_n 0, 1) := by decide +kernel
theorem dX11_set_70 : decode cX11_set 70 = .ok (.getfield 10, 3) := by decide +kernel
theorem dX11_set_73 : decode cX11_set 73 = .ok (.iload_n 1, 1) := by decide +kernel
theorem dX11_set_74 : decode cX11_set 74 = .ok (.iload_n 2, 1) := by decide +kernel
theorem dX11_set_75 : decode cX11_set 75 = .ok (.invokevirtual 112, 3) := by decide +kernel
theorem dX11_set_78 : decode cX11_set 78 = .ok (.iload_n 3, 1) := by decide +kernel
theorem dX11_set_79 : decode cX11_set 79 = .ok (.ireturn, 1) := by decide +kernel
set_option maxRecDepth 20000 in
theorem ggX11_setRule_X11_requireRound : GoodIn wsX11_setRule wsX11_requireRound := goodIn_ca (goodIn_r _ [8, 9, 10, 7, 11, 12, 13, 14, 15, 16] (by decide +kernel) (by decide +kernel)) (goodIn_sub (fun _ h => List.mem_cons_of_mem _ (List.mem_append_left _ (List.mem_append_left _ (List.mem_append_right _ h)))) (by decide +kernel))
set_option maxRecDepth 20000 in
theorem gX11_setRule_X11_requireRound : GoodIn wsX11_setRule (va_wsS RX11 115 yX11_requireRound wsX11_requireRound) := goodIn_app (goodIn_of _ (by decide +kernel)) ggX11_setRule_X11_requireRound
set_option maxRecDepth 20000 in
theorem ggX11_setRule_X11_isBetween : GoodIn wsX11_setRule wsX11_isBetween := goodIn_r _ [11] (by decide +kernel) (by decide +kernel)
set_option maxRecDepth 20000 in
theorem gX11_setRule_X11_isBetween : GoodIn wsX11_setRule (va_wsS RX11 30 yX11_isBetween wsX11_isBetween) := goodIn_app (goodIn_of _ (by decide +kernel)) ggX11_setRule_X11_isBetween
set_option maxRecDepth 20000 in
theorem ggX11_setRule_X11_requireArgument : GoodIn wsX11_setRule wsX11_requireArgument := goodIn_ca (goodIn_r _ [19, 20, 21] (by decide +kernel) (by decide +kernel)) (goodIn_sub (fun _ h => List.mem_cons_of_mem _ (List.mem_append_left _ (List.mem_append_right _ h))) (by decide +kernel))
set_option maxRecDepth 20000 in
theorem gX11_setRule_X11_requireArgument : GoodIn wsX11_setRule (va_wsS RX11 34 yX11_requireArgument wsX11_requireArgument) := goodIn_app (goodIn_of _ (by decide +kernel)) ggX11_setRule_X11_requireArgument
set_option maxRecDepth 20000 in
theorem ggX11_setRule_X11_requireState : GoodIn wsX11_setRule wsX11_requireState := goodIn_ca (goodIn_r _ [24, 25, 26] (by decide +kernel) (by decide +kernel)) (goodIn_sub (fun _ h => List.mem_cons_of_mem _ (List.mem_append_right _ h)) (by decide +kernel))
set_option maxRecDepth 20000 in
theorem gX11_setRule_X11_requireState : GoodIn wsX11_setRule (va_wsS RX11 51 yX11_requireState wsX11_requireState) := goodIn_app (goodIn_of _ (by decide +kernel)) ggX11_setRule_X11_requireState
set_option maxRecDepth 20000 in
theorem ggX11_setRule_X5_keep : GoodIn wsX11_setRule wsX5_keep := goodIn_r _ [31, 32, 33, 34, 35, 36, 30, 37, 38, 39, 40, 41, 42, 43, 44, 45, 46, 47, 48, 49, 50, 51, 52, 53, 54, 55, 56, 57, 58, 59, 60, 61, 62, 63, 64, 65, 7, 66, 67, 68, 69, 70, 71, 72, 73, 74, 75, 76, 77, 78, 79, 80, 81, 82, 83, 84, 85, 86, 87, 88, 89, 90, 91, 92, 93, 94, 95, 96, 97, 98, 99, 100, 101, 102, 103, 104, 105, 106, 107, 108, 109, 110, 111, 112, 113, 114, 115, 116, 117, 118, 119, 120, 121, 122, 140, 141, 126, 127, 128, 129, 130, 131, 132, 133, 134, 135, 136, 137, 138, 139, 142, 143, 144, 145, 146, 147, 148, 149, 150, 151, 152, 153, 154, 155, 156, 157, 158, 159, 160] (by decide +kernel) (by decide +kernel)
set_option maxRecDepth 20000 in
theorem gX11_setRule_X5_keep : GoodIn wsX11_setRule (wsV RX11 54 RX5 yX5_keep wsX5_keep) := goodIn_app (goodIn_of _ (by decide +kernel)) ggX11_setRule_X5_keep
theorem dX11_setRule_0 : decode cX11_setRule 0 = .ok (.iload_n 1, 1) := by decide +kernel
theorem dX11_setRule_1 : decode cX11_setRule 1 = .ok (.invokestatic 115, 3) := by decide +kernel
theorem dX11_setRule_4 : decode cX11_setRule 4 = .ok (.iload_n 2, 1) := by decide +kernel
theorem dX11_setRule_5 : decode cX11_setRule 5 = .ok (.iconst 0, 1) := by decide +kernel
theorem dX11_setRule_6 : decode cX11_setRule 6 = .ok (.iconst 5, 1) := by decide +kernel
theorem dX11_setRule_7 : decode cX11_setRule 7 = .ok (.invokestatic 30, 3) := by decide +kernel
theorem dX11_setRule_10 : decode cX11_setRule 10 = .ok (.invokestatic 34, 3) := by decide +kernel
theorem dX11_setRule_13 : decode cX11_setRule 13 = .ok (.iload_n 3, 1) := by decide +kernel
theorem dX11_setRule_14 : decode cX11_setRule 14 = .ok (.getstatic 119, 3) := by decide +kernel
theorem dX11_setRule_17 : decode cX11_setRule 17 = .ok (.iload_n 2, 1) := by decide +kernel
theorem dX11_setRule_18 : decode cX11_setRule 18 = .ok (.iaload, 1) := by decide +kernel
theorem dX11_setRule_19 : decode cX11_setRule 19 = .ok (.getstatic 122, 3) := by decide +kernel
theorem dX11_setRule_22 : decode cX11_setRule 22 = .ok (.iload_n 2, 1) := by decide +kernel
theorem dX11_setRule_23 : decode cX11_setRule 23 = .ok (.iaload, 1) := by decide +kernel
theorem dX11_setRule_24 : decode cX11_setRule 24 = .ok (.invokestatic 30, 3) := by decide +kernel
theorem dX11_setRule_27 : decode cX11_setRule 27 = .ok (.invokestatic 34, 3) := by decide +kernel
theorem dX11_setRule_30 : decode cX11_setRule 30 = .ok (.aload_n 0, 1) := by decide +kernel
theorem dX11_setRule_31 : decode cX11_setRule 31 = .ok (.getfield 10, 3) := by decide +kernel
theorem dX11_setRule_34 : decode cX11_setRule 34 = .ok (.getfield 38, 3) := by decide +kernel
theorem dX11_setRule_37 : decode cX11_setRule 37 = .ok (.ifCond .ne 7, 3) := by decide +kernel
theorem dX11_setRule_40 : decode cX11_setRule 40 = .ok (.iconst 1, 1) := by decide +kernel
theorem dX11_setRule_41 : decode cX11_setRule 41 = .ok (.goto 4, 3) := by decide +kernel
theorem dX11_setRule_44 : decode cX11_setRule 44 = .ok (.iconst 0, 1) := by decide +kernel
theorem dX11_setRule_45 : decode cX11_setRule 45 = .ok (.invokestatic 51, 3) := by decide +kernel
theorem dX11_setRule_48 : decode cX11_setRule 48 = .ok (.aload_n 0, 1) := by decide +kernel
theorem dX11_setRule_49 : decode cX11_setRule 49 = .ok (.getfield 19, 3) := by decide +kernel
theorem dX11_setRule_52 : decode cX11_setRule 52 = .ok (.aload_n 0, 1) := by decide +kernel
theorem dX11_setRule_53 : decode cX11_setRule 53 = .ok (.getfield 10, 3) := by decide +kernel
theorem dX11_setRule_56 : decode cX11_setRule 56 = .ok (.invokevirtual 54, 3) := by decide +kernel
theorem dX11_setRule_59 : decode cX11_setRule 59 = .ok (.aload_n 0, 1) := by decide +kernel
theorem dX11_setRule_60 : decode cX11_setRule 60 = .ok (.getfield 10, 3) := by decide +kernel
theorem dX11_setRule_63 : decode cX11_setRule 63 = .ok (.getfield 125, 3) := by decide +kernel
theorem dX11_setRule_66 : decode cX11_setRule 66 = .ok (.iload_n 1, 1) := by decide +kernel
theorem dX11_setRule_67 : decode cX11_setRule 67 = .ok (.aaload, 1) := by decide +kernel
theorem dX11_setRule_68 : decode cX11_setRule 68 = .ok (.iload_n 2, 1) := by decide +kernel
theorem dX11_setRule_69 : decode cX11_setRule 69 = .ok (.iaload, 1) := by decide +kernel
theorem dX11_setRule_70 : decode cX11_setRule 70 = .ok (.istore 4, 2) := by decide +kernel
theorem dX11_setRule_72 : decode cX11_setRule 72 = .ok (.aload_n 0, 1) := by decide +kernel
theorem dX11_setRule_73 : decode cX11_setRule 73 = .ok (.getfield 10, 3) := by decide +kernel
theorem dX11_setRule_76 : decode cX11_setRule 76 = .ok (.getfield 125, 3) := by decide +kernel
theorem dX11_setRule_79 : decode cX11_setRule 79 = .ok (.iload_n 1, 1) := by decide +kernel
theorem dX11_setRule_80 : decode cX11_setRule 80 = .ok (.aaload, 1) := by decide +kernel
theorem dX11_setRule_81 : decode cX11_setRule 81 = .ok (.iload_n 2, 1) := by decide +kernel
theorem dX11_setRule_82 : decode cX11_setRule 82 = .ok (.iload_n 3, 1) := by decide +kernel
theorem dX11_setRule_83 : decode cX11_setRule 83 = .ok (.iastore, 1) := by decide +kernel
theorem dX11_setRule_84 : decode cX11_setRule 84 = .ok (.iload 4, 2) := by decide +kernel
theorem dX11_setRule_86 : decode cX11_setRule 86 = .ok (.ireturn, 1) := by decide +kernel
set_option maxRecDepth 20000 in
theorem ggX11_rule_X11_requireRound : GoodIn wsX11_rule wsX11_requireRound := goodIn_ca (goodIn_r _ [5, 6, 7, 4, 8, 9, 10, 11, 12, 13] (by decide +kernel) (by decide +kernel)) (goodIn_sub (fun _ h => List.mem_cons_of_mem _ (List.mem_append_left _ (List.mem_append_right _ h))) (by decide +kernel))
set_option maxRecDepth 20000 in
theorem gX11_rule_X11_requireRound : GoodIn wsX11_rule (va_wsS RX11 115 yX11_requireRound wsX11_requireRound) := goodIn_app (goodIn_of _ (by decide +kernel)) ggX11_rule_X11_requireRound
set_option maxRecDepth 20000 in
theorem ggX11_rule_X11_isBetween : GoodIn wsX11_rule wsX11_isBetween := goodIn_r _ [8] (by decide +kernel) (by decide +kernel)
set_option maxRecDepth 20000 in
theorem gX11_rule_X11_isBetween : GoodIn wsX11_rule (va_wsS RX11 30 yX11_isBetween wsX11_isBetween) := goodIn_app (goodIn_of _ (by decide +kernel)) ggX11_rule_X11_isBetween
set_option maxRecDepth 20000 in
theorem ggX11_rule_X11_requireArgument : GoodIn wsX11_rule wsX11_requireArgument := goodIn_ca (goodIn_r _ [16, 17, 18] (by decide +kernel) (by decide +kernel)) (goodIn_sub (fun _ h => List.mem_cons_of_mem _ (List.mem_append_right _ h)) (by decide +kernel))
set_option maxRecDepth 20000 in
theorem gX11_rule_X11_requireArgument : GoodIn wsX11_rule (va_wsS RX11 34 yX11_requireArgument wsX11_requireArgument) := goodIn_app (goodIn_of _ (by decide +kernel)) ggX11_rule_X11_requireArgument
theorem dX11_rule_0 : decode cX11_rule 0 = .ok (.iload_n 1, 1) := by decide +kernel
theorem dX11_rule_1 : decode cX11_rule 1 = .ok (.invokestatic 115, 3) := by decide +kernel
theorem dX11_rule_4 : decode cX11_rule 4 = .ok (.iload_n 2, 1) := by decide +kernel
theorem dX11_rule_5 : decode cX11_rule 5 = .ok (.iconst 0, 1) := by decide +kernel
theorem dX11_rule_6 : decode cX11_rule 6 = .ok (.iconst 5, 1) := by decide +kernel
theorem dX11_rule_7 : decode cX11_rule 7 = .ok (.invokestatic 30, 3) := by decide +kernel
theorem dX11_rule_10 : decode cX11_rule 10 = .ok (.invokestatic 34, 3) := by decide +kernel
theorem dX11_rule_13 : decode cX11_rule 13 = .ok (.aload_n 0, 1) := by decide +kernel
theorem dX11_rule_14 : decode cX11_rule 14 = .ok (.getfield 10, 3) := by decide +kernel
theorem dX11_rule_17 : decode cX11_rule 17 = .ok (.getfield 125, 3) := by decide +kernel
theorem dX11_rule_20 : decode cX11_rule 20 = .ok (.iload_n 1, 1) := by decide +kernel
theorem dX11_rule_21 : decode cX11_rule 21 = .ok (.aaload, 1) := by decide +kernel
theorem dX11_rule_22 : decode cX11_rule 22 = .ok (.iload_n 2, 1) := by decide +kernel
theorem dX11_rule_23 : decode cX11_rule 23 = .ok (.iaload, 1) := by decide +kernel
theorem dX11_rule_24 : decode cX11_rule 24 = .ok (.ireturn, 1) := by decide +kernel
set_option maxRecDepth 20000 in
theorem ggX11_setProgram_X11_requireEntrantAndRound : GoodIn wsX11_setProgram wsX11_requireEntrantAndRound := goodIn_ca (goodIn_r _ [8, 9, 10, 11, 7, 12, 2, 13, 14, 15, 16, 17, 18, 19, 20, 21, 22, 23, 24, 25, 26, 27, 28, 29, 160, 161, 162, 163, 164, 165, 166, 167, 168, 169, 170, 171, 172, 173, 174, 175, 176, 186, 187] (by decide +kernel) (by decide +kernel)) (goodIn_sub (fun _ h => List.mem_cons_of_mem _ (List.mem_append_left _ (List.mem_append_right _ h))) (by decide +kernel))
set_option maxRecDepth 20000 in
theorem gX11_setProgram_X11_requireEntrantAndRound : GoodIn wsX11_setProgram (wsV RX11 129 RX11 yX11_requireEntrantAndRound wsX11_requireEntrantAndRound) := goodIn_app (goodIn_of _ (by decide +kernel)) ggX11_setProgram_X11_requireEntrantAndRound
set_option maxRecDepth 20000 in
theorem ggX11_setProgram_X8_faultAmong : GoodIn wsX11_setProgram wsX8_faultAmong := goodIn_r _ [34, 35, 36, 37, 38, 39, 40, 33, 41, 42, 43, 28, 7, 29, 44, 45, 46, 47, 48, 49, 50, 51, 181, 182, 183, 184, 185] (by decide +kernel) (by decide +kernel)
set_option maxRecDepth 20000 in
theorem gX11_setProgram_X8_faultAmong : GoodIn wsX11_setProgram (wsV RX11 132 RX8 yX8_faultAmong wsX8_faultAmong) := goodIn_app (goodIn_of _ (by decide +kernel)) ggX11_setProgram_X8_faultAmong
set_option maxRecDepth 20000 in
theorem ggX11_setProgram_X11_requireArgument : GoodIn wsX11_setProgram wsX11_requireArgument := goodIn_ca (goodIn_r _ [54, 55, 56] (by decide +kernel) (by decide +kernel)) (goodIn_sub (fun _ h => List.mem_cons_of_mem _ (List.mem_append_right _ h)) (by decide +kernel))
set_option maxRecDepth 20000 in
theorem gX11_setProgram_X11_requireArgument : GoodIn wsX11_setProgram (va_wsS RX11 34 yX11_requireArgument wsX11_requireArgument) := goodIn_app (goodIn_of _ (by decide +kernel)) ggX11_setProgram_X11_requireArgument
set_option maxRecDepth 20000 in
theorem ggX11_setProgram_X5_keep : GoodIn wsX11_setProgram wsX5_keep := goodIn_r _ [61, 62, 63, 64, 65, 66, 60, 67, 68, 69, 70, 71, 72, 73, 74, 75, 76, 77, 78, 79, 80, 81, 82, 83, 84, 85, 86, 87, 88, 89, 90, 91, 92, 93, 94, 95, 7, 96, 97, 98, 99, 100, 101, 102, 103, 104, 105, 106, 107, 16, 108, 18, 109, 110, 111, 112, 113, 114, 115, 116, 117, 118, 119, 120, 121, 122, 123, 124, 125, 126, 127, 128, 129, 130, 131, 132, 133, 134, 135, 136, 137, 138, 139, 140, 141, 142, 143, 144, 145, 146, 147, 148, 149, 150, 188, 189, 163, 164, 165, 166, 167, 168, 169, 170, 171, 172, 173, 174, 175, 176, 177, 178, 179, 180, 186, 187, 190, 191, 192, 193, 194, 195, 196, 197, 198, 199, 200, 201, 202] (by decide +kernel) (by decide +kernel)
set_option maxRecDepth 20000 in
theorem gX11_setProgram_X5_keep : GoodIn wsX11_setProgram (wsV RX11 54 RX5 yX5_keep wsX5_keep) := goodIn_app (goodIn_of _ (by decide +kernel)) ggX11_setProgram_X5_keep
set_option maxRecDepth 20000 in
theorem ggX11_setProgram_X4_empty : GoodIn wsX11_setProgram wsX4_empty := goodIn_r _ [154, 155, 156, 157, 115, 158, 117, 190] (by decide +kernel) (by decide +kernel)
set_option maxRecDepth 20000 in
theorem gX11_setProgram_X4_empty : GoodIn wsX11_setProgram (wsV RX11 139 RX4 yX4_empty wsX4_empty) := goodIn_app (goodIn_of _ (by decide +kernel)) ggX11_setProgram_X4_empty
set_option maxRecDepth 20000 in
theorem ggX11_setProgram_X4_put : GoodIn wsX11_setProgram wsX4_put := goodIn_r _ [158, 117, 190] (by decide +kernel) (by decide +kernel)
set_option maxRecDepth 20000 in
theorem gX11_setProgram_X4_put : GoodIn wsX11_setProgram (wsV RX11 150 RX4 yX4_put wsX4_put) := goodIn_app (goodIn_of _ (by decide +kernel)) ggX11_setProgram_X4_put
theorem dX11_setProgram_0 : decode cX11_setProgram 0 = .ok (.aload_n 0, 1) := by decide +kernel
theorem dX11_setProgram_1 : decode cX11_setProgram 1 = .ok (.iload_n 1, 1) := by decide +kernel
theorem dX11_setProgram_2 : decode cX11_setProgram 2 = .ok (.iload_n 2, 1) := by decide +kernel
theorem dX11_setProgram_3 : decode cX11_setProgram 3 = .ok (.invokevirtual 129, 3) := by decide +kernel
theorem dX11_setProgram_6 : decode cX11_setProgram 6 = .ok (.aload_n 0, 1) := by decide +kernel
theorem dX11_setProgram_7 : decode cX11_setProgram 7 = .ok (.getfield 26, 3) := by decide +kernel
theorem dX11_setProgram_10 : decode cX11_setProgram 10 = .ok (.aload_n 0, 1) := by decide +kernel
theorem dX11_setProgram_11 : decode cX11_setProgram 11 = .ok (.getfield 10, 3) := by decide +kernel
theorem dX11_setProgram_14 : decode cX11_setProgram 14 = .ok (.getfield 42, 3) := by decide +kernel
theorem dX11_setProgram_17 : decode cX11_setProgram 17 = .ok (.getfield 46, 3) := by decide +kernel
theorem dX11_setProgram_20 : decode cX11_setProgram 20 = .ok (.invokevirtual 132, 3) := by decide +kernel
theorem dX11_setProgram_23 : decode cX11_setProgram 23 = .ok (.iconst (-1), 1) := by decide +kernel
theorem dX11_setProgram_24 : decode cX11_setProgram 24 = .ok (.if_icmp .ne 7, 3) := by decide +kernel
theorem dX11_setProgram_27 : decode cX11_setProgram 27 = .ok (.iconst 1, 1) := by decide +kernel
theorem dX11_setProgram_28 : decode cX11_setProgram 28 = .ok (.goto 4, 3) := by decide +kernel
theorem dX11_setProgram_31 : decode cX11_setProgram 31 = .ok (.iconst 0, 1) := by decide +kernel
theorem dX11_setProgram_32 : decode cX11_setProgram 32 = .ok (.invokestatic 34, 3) := by decide +kernel
theorem dX11_setProgram_35 : decode cX11_setProgram 35 = .ok (.aload_n 0, 1) := by decide +kernel
theorem dX11_setProgram_36 : decode cX11_setProgram 36 = .ok (.getfield 19, 3) := by decide +kernel
theorem dX11_setProgram_39 : decode cX11_setProgram 39 = .ok (.aload_n 0, 1) := by decide +kernel
theorem dX11_setProgram_40 : decode cX11_setProgram 40 = .ok (.getfield 10, 3) := by decide +kernel
theorem dX11_setProgram_43 : decode cX11_setProgram 43 = .ok (.invokevirtual 54, 3) := by decide +kernel
theorem dX11_setProgram_46 : decode cX11_setProgram 46 = .ok (.aload_n 0, 1) := by decide +kernel
theorem dX11_setProgram_47 : decode cX11_setProgram 47 = .ok (.getfield 10, 3) := by decide +kernel
theorem dX11_setProgram_50 : decode cX11_setProgram 50 = .ok (.getfield 135, 3) := by decide +kernel
theorem dX11_setProgram_53 : decode cX11_setProgram 53 = .ok (.iload_n 1, 1) := by decide +kernel
theorem dX11_setProgram_54 : decode cX11_setProgram 54 = .ok (.iload_n 2, 1) := by decide +kernel
theorem dX11_setProgram_55 : decode cX11_setProgram 55 = .ok (.invokevirtual 139, 3) := by decide +kernel
theorem dX11_setProgram_58 : decode cX11_setProgram 58 = .ok (.iconst 0, 1) := by decide +kernel
theorem dX11_setProgram_59 : decode cX11_setProgram 59 = .ok (.istore_n 3, 1) := by decide +kernel
theorem dX11_setProgram_60 : decode cX11_setProgram 60 = .ok (.iload_n 3, 1) := by decide +kernel
theorem dX11_setProgram_61 : decode cX11_setProgram 61 = .ok (.aload_n 0, 1) := by decide +kernel
theorem dX11_setProgram_62 : decode cX11_setProgram 62 = .ok (.getfield 26, 3) := by decide +kernel
theorem dX11_setProgram_65 : decode cX11_setProgram 65 = .ok (.getfield 144, 3) := by decide +kernel
theorem dX11_setProgram_68 : decode cX11_setProgram 68 = .ok (.if_icmp .ge 31, 3) := by decide +kernel
theorem dX11_setProgram_71 : decode cX11_setProgram 71 = .ok (.aload_n 0, 1) := by decide +kernel
theorem dX11_setProgram_72 : decode cX11_setProgram 72 = .ok (.getfield 10, 3) := by decide +kernel
theorem dX11_setProgram_75 : decode cX11_setProgram 75 = .ok (.getfield 135, 3) := by decide +kernel
theorem dX11_setProgram_78 : decode cX11_setProgram 78 = .ok (.iload_n 1, 1) := by decide +kernel
theorem dX11_setProgram_79 : decode cX11_setProgram 79 = .ok (.iload_n 2, 1) := by decide +kernel
theorem dX11_setProgram_80 : decode cX11_setProgram 80 = .ok (.iload_n 3, 1) := by decide +kernel
theorem dX11_setProgram_81 : decode cX11_setProgram 81 = .ok (.aload_n 0, 1) := by decide +kernel
theorem dX11_setProgram_82 : decode cX11_setProgram 82 = .ok (.getfield 26, 3) := by decide +kernel
theorem dX11_setProgram_85 : decode cX11_setProgram 85 = .ok (.getfield 147, 3) := by decide +kernel
theorem dX11_setProgram_88 : decode cX11_setProgram 88 = .ok (.iload_n 3, 1) := by decide +kernel
theorem dX11_setProgram_89 : decode cX11_setProgram 89 = .ok (.iaload, 1) := by decide +kernel
theorem dX11_setProgram_90 : decode cX11_setProgram 90 = .ok (.invokevirtual 150, 3) := by decide +kernel
theorem dX11_setProgram_93 : decode cX11_setProgram 93 = .ok (.iinc 3 1, 3) := by decide +kernel
theorem dX11_setProgram_96 : decode cX11_setProgram 96 = .ok (.goto (-36), 3) := by decide +kernel
theorem dX11_setProgram_99 : decode cX11_setProgram 99 = .ok (.aload_n 0, 1) := by decide +kernel
theorem dX11_setProgram_100 : decode cX11_setProgram 100 = .ok (.getfield 26, 3) := by decide +kernel
theorem dX11_setProgram_103 : decode cX11_setProgram 103 = .ok (.getfield 144, 3) := by decide +kernel
theorem dX11_setProgram_106 : decode cX11_setProgram 106 = .ok (.ireturn, 1) := by decide +kernel
set_option maxRecDepth 20000 in
theorem ggX11_clearProgram_X11_requireEntrantAndRound : GoodIn wsX11_clearProgram wsX11_requireEntrantAndRound := goodIn_ca (goodIn_r _ [7, 8, 9, 10, 6, 11, 2, 12, 13, 14, 15, 16, 17, 18, 19, 20, 21, 22, 23, 24, 25, 26, 27, 28, 139, 140, 141, 142, 143, 144, 145, 146, 147, 148, 149, 150, 151, 152, 153, 154, 155, 156, 157] (by decide +kernel) (by decide +kernel)) (goodIn_sub (fun _ h => List.mem_cons_of_mem _ (List.mem_append_right _ h)) (by decide +kernel))
set_option maxRecDepth 20000 in
theorem gX11_clearProgram_X11_requireEntrantAndRound : GoodIn wsX11_clearProgram (wsV RX11 129 RX11 yX11_requireEntrantAndRound wsX11_requireEntrantAndRound) := goodIn_app (goodIn_of _ (by decide +kernel)) ggX11_clearProgram_X11_requireEntrantAndRound
set_option maxRecDepth 20000 in
theorem ggX11_clearProgram_X5_keep : GoodIn wsX11_clearProgram wsX5_keep := goodIn_r _ [33, 34, 35, 36, 37, 38, 32, 39, 40, 41, 42, 43, 44, 45, 46, 47, 48, 49, 50, 51, 52, 53, 54, 55, 56, 57, 58, 59, 60, 61, 62, 63, 64, 65, 66, 67, 6, 68, 69, 70, 71, 72, 73, 74, 75, 76, 77, 78, 79, 15, 80, 17, 81, 82, 83, 84, 85, 86, 87, 88, 89, 90, 91, 92, 93, 94, 95, 96, 97, 98, 99, 100, 101, 102, 103, 104, 105, 106, 107, 108, 109, 110, 111, 112, 113, 114, 115, 116, 117, 118, 119, 120, 121, 122, 158, 159, 142, 143, 144, 145, 146, 147, 148, 149, 150, 151, 152, 153, 154, 155, 160, 161, 162, 163, 156, 157, 164, 165, 166, 167, 168, 169, 170, 171, 172, 173, 174, 175, 176] (by decide +kernel) (by decide +kernel)
set_option maxRecDepth 20000 in
theorem gX11_clearProgram_X5_keep : GoodIn wsX11_clearProgram (wsV RX11 54 RX5 yX5_keep wsX5_keep) := goodIn_app (goodIn_of _ (by decide +kernel)) ggX11_clearProgram_X5_keep
set_option maxRecDepth 20000 in
theorem ggX11_clearProgram_X4_sizeOf : GoodIn wsX11_clearProgram wsX4_sizeOf := goodIn_r _ [126, 127, 128, 129, 87, 130, 89, 164] (by decide +kernel) (by decide +kernel)
set_option maxRecDepth 20000 in
theorem gX11_clearProgram_X4_sizeOf : GoodIn wsX11_clearProgram (wsV RX11 154 RX4 yX4_sizeOf wsX4_sizeOf) := goodIn_app (goodIn_of _ (by decide +kernel)) ggX11_clearProgram_X4_sizeOf
set_option maxRecDepth 20000 in
theorem ggX11_clearProgram_X4_empty : GoodIn wsX11_clearProgram wsX4_empty := goodIn_r _ [134, 135, 136, 137, 87, 138, 89, 164] (by decide +kernel) (by decide +kernel)
set_option maxRecDepth 20000 in
theorem gX11_clearProgram_X4_empty : GoodIn wsX11_clearProgram (wsV RX11 139 RX4 yX4_empty wsX4_empty) := goodIn_app (goodIn_of _ (by decide +kernel)) ggX11_clearProgram_X4_empty
theorem dX11_clearProgram_0 : decode cX11_clearProgram 0 = .ok (.aload_n 0, 1) := by decide +kernel
theorem dX11_clearProgram_1 : decode cX11_clearProgram 1 = .ok (.iload_n 1, 1) := by decide +kernel
theorem dX11_clearProgram_2 : decode cX11_clearProgram 2 = .ok (.iload_n 2, 1) := by decide +kernel
theorem dX11_clearProgram_3 : decode cX11_clearProgram 3 = .ok (.invokevirtual 129, 3) := by decide +kernel
theorem dX11_clearProgram_6 : decode cX11_clearProgram 6 = .ok (.aload_n 0, 1) := by decide +kernel
theorem dX11_clearProgram_7 : decode cX11_clearProgram 7 = .ok (.getfield 19, 3) := by decide +kernel
theorem dX11_clearProgram_10 : decode cX11_clearProgram 10 = .ok (.aload_n 0, 1) := by decide +kernel
theorem dX11_clearProgram_11 : decode cX11_clearProgram 11 = .ok (.getfield 10, 3) := by decide +kernel
theorem dX11_clearProgram_14 : decode cX11_clearProgram 14 = .ok (.invokevirtual 54, 3) := by decide +kernel
theorem dX11_clearProgram_17 : decode cX11_clearProgram 17 = .ok (.aload_n 0, 1) := by decide +kernel
theorem dX11_clearProgram_18 : decode cX11_clearProgram 18 = .ok (.getfield 10, 3) := by decide +kernel
theorem dX11_clearProgram_21 : decode cX11_clearProgram 21 = .ok (.getfield 135, 3) := by decide +kernel
theorem dX11_clearProgram_24 : decode cX11_clearProgram 24 = .ok (.iload_n 1, 1) := by decide +kernel
theorem dX11_clearProgram_25 : decode cX11_clearProgram 25 = .ok (.iload_n 2, 1) := by decide +kernel
theorem dX11_clearProgram_26 : decode cX11_clearProgram 26 = .ok (.invokevirtual 154, 3) := by decide +kernel
theorem dX11_clearProgram_29 : decode cX11_clearProgram 29 = .ok (.istore_n 3, 1) := by decide +kernel
theorem dX11_clearProgram_30 : decode cX11_clearProgram 30 = .ok (.aload_n 0, 1) := by decide +kernel
theorem dX11_clearProgram_31 : decode cX11_clearProgram 31 = .ok (.getfield 10, 3) := by decide +kernel
theorem dX11_clearProgram_34 : decode cX11_clearProgram 34 = .ok (.getfield 135, 3) := by decide +kernel
theorem dX11_clearProgram_37 : decode cX11_clearProgram 37 = .ok (.iload_n 1, 1) := by decide +kernel
theorem dX11_clearProgram_38 : decode cX11_clearProgram 38 = .ok (.iload_n 2, 1) := by decide +kernel
theorem dX11_clearProgram_39 : decode cX11_clearProgram 39 = .ok (.invokevirtual 139, 3) := by decide +kernel
theorem dX11_clearProgram_42 : decode cX11_clearProgram 42 = .ok (.iload_n 3, 1) := by decide +kernel
theorem dX11_clearProgram_43 : decode cX11_clearProgram 43 = .ok (.ireturn, 1) := by decide +kernel
set_option maxRecDepth 20000 in
theorem ggX11_program_X11_requireEntrantAndRound : GoodIn wsX11_program wsX11_requireEntrantAndRound := goodIn_ca (goodIn_r _ [6, 7, 8, 9, 5, 10, 1, 11, 12, 13, 14, 15, 16, 17, 18, 19, 20, 21, 22, 23, 24, 25, 26, 27, 34, 35, 36, 37, 38, 39, 40, 41, 42, 43, 44, 45, 46, 47, 48, 49, 50, 51, 52] (by decide +kernel) (by decide +kernel)) (goodIn_sub (fun _ h => List.mem_cons_of_mem _ (List.mem_append_right _ h)) (by decide +kernel))
set_option maxRecDepth 20000 in
theorem gX11_program_X11_requireEntrantAndRound : GoodIn wsX11_program (wsV RX11 129 RX11 yX11_requireEntrantAndRound wsX11_requireEntrantAndRound) := goodIn_app (goodIn_of _ (by decide +kernel)) ggX11_program_X11_requireEntrantAndRound
set_option maxRecDepth 20000 in
theorem ggX11_program_X4_workAt : GoodIn wsX11_program wsX4_workAt := goodIn_r _ [32, 33, 53] (by decide +kernel) (by decide +kernel)
set_option maxRecDepth 20000 in
theorem gX11_program_X4_workAt : GoodIn wsX11_program (wsV RX11 157 RX4 yX4_workAt wsX4_workAt) := goodIn_app (goodIn_of _ (by decide +kernel)) ggX11_program_X4_workAt
theorem dX11_program_0 : decode cX11_program 0 = .ok (.aload_n 0, 1) := by decide +kernel
theorem dX11_program_1 : decode cX11_program 1 = .ok (.iload_n 1, 1) := by decide +kernel
theorem dX11_program_2 : decode cX11_program 2 = .ok (.iload_n 2, 1) := by decide +kernel
theorem dX11_program_3 : decode cX11_program 3 = .ok (.invokevirtual 129, 3) := by decide +kernel
theorem dX11_program_6 : decode cX11_program 6 = .ok (.aload_n 0, 1) := by decide +kernel
theorem dX11_program_7 : decode cX11_program 7 = .ok (.getfield 10, 3) := by decide +kernel
theorem dX11_program_10 : decode cX11_program 10 = .ok (.getfield 135, 3) := by decide +kernel
theorem dX11_program_13 : decode cX11_program 13 = .ok (.iload_n 1, 1) := by decide +kernel
theorem dX11_program_14 : decode cX11_program 14 = .ok (.iload_n 2, 1) := by decide +kernel
theorem dX11_program_15 : decode cX11_program 15 = .ok (.iload_n 3, 1) := by decide +kernel
theorem dX11_program_16 : decode cX11_program 16 = .ok (.invokevirtual 157, 3) := by decide +kernel
theorem dX11_program_19 : decode cX11_program 19 = .ok (.ireturn, 1) := by decide +kernel
set_option maxRecDepth 20000 in
theorem ggX11_flaw_X11_requireEntrantAndRound : GoodIn wsX11_flaw wsX11_requireEntrantAndRound := goodIn_ca (goodIn_r _ [6, 7, 8, 9, 5, 10, 1, 11, 12, 13, 14, 15, 16, 17, 18, 19, 20, 21, 22, 23, 24, 25, 26, 27, 87, 88, 89, 90, 91, 92, 93, 94, 95, 96, 97, 98, 99, 100, 101, 102, 103, 104, 105] (by decide +kernel) (by decide +kernel)) (goodIn_sub (fun _ h => List.mem_cons_of_mem _ (List.mem_append_right _ h)) (by decide +kernel))
set_option maxRecDepth 20000 in
theorem gX11_flaw_X11_requireEntrantAndRound : GoodIn wsX11_flaw (wsV RX11 129 RX11 yX11_requireEntrantAndRound wsX11_requireEntrantAndRound) := goodIn_app (goodIn_of _ (by decide +kernel)) ggX11_flaw_X11_requireEntrantAndRound
set_option maxRecDepth 20000 in
theorem ggX11_flaw_X4_flawOf : GoodIn wsX11_flaw wsX4_flawOf := goodIn_r _ [32, 33, 34, 35, 31, 36, 37, 38, 39, 40, 41, 42, 43, 44, 45, 46, 47, 48, 49, 50, 51, 52, 53, 54, 55, 56, 57, 58, 59, 60, 61, 62, 63, 64, 65, 66, 67, 68, 69, 70, 71, 72, 73, 74, 75, 76, 77, 78, 79, 80, 81, 82, 83, 84, 85, 86, 106, 107, 108, 109, 110] (by decide +kernel) (by decide +kernel)
set_option maxRecDepth 20000 in
theorem gX11_flaw_X4_flawOf : GoodIn wsX11_flaw (wsV RX11 160 RX4 yX4_flawOf wsX4_flawOf) := goodIn_app (goodIn_of _ (by decide +kernel)) ggX11_flaw_X4_flawOf
theorem dX11_flaw_0 : decode cX11_flaw 0 = .ok (.aload_n 0, 1) := by decide +kernel
theorem dX11_flaw_1 : decode cX11_flaw 1 = .ok (.iload_n 1, 1) := by decide +kernel
theorem dX11_flaw_2 : decode cX11_flaw 2 = .ok (.iload_n 2, 1) := by decide +kernel
theorem dX11_flaw_3 : decode cX11_flaw 3 = .ok (.invokevirtual 129, 3) := by decide +kernel
theorem dX11_flaw_6 : decode cX11_flaw 6 = .ok (.aload_n 0, 1) := by decide +kernel
theorem dX11_flaw_7 : decode cX11_flaw 7 = .ok (.getfield 10, 3) := by decide +kernel
theorem dX11_flaw_10 : decode cX11_flaw 10 = .ok (.getfield 135, 3) := by decide +kernel
theorem dX11_flaw_13 : decode cX11_flaw 13 = .ok (.iload_n 1, 1) := by decide +kernel
theorem dX11_flaw_14 : decode cX11_flaw 14 = .ok (.iload_n 2, 1) := by decide +kernel
theorem dX11_flaw_15 : decode cX11_flaw 15 = .ok (.aload_n 0, 1) := by decide +kernel
theorem dX11_flaw_16 : decode cX11_flaw 16 = .ok (.getfield 10, 3) := by decide +kernel
theorem dX11_flaw_19 : decode cX11_flaw 19 = .ok (.getfield 125, 3) := by decide +kernel
theorem dX11_flaw_22 : decode cX11_flaw 22 = .ok (.aload_n 0, 1) := by decide +kernel
theorem dX11_flaw_23 : decode cX11_flaw 23 = .ok (.getfield 10, 3) := by decide +kernel
theorem dX11_flaw_26 : decode cX11_flaw 26 = .ok (.getfield 42, 3) := by decide +kernel
theorem dX11_flaw_29 : decode cX11_flaw 29 = .ok (.invokevirtual 160, 3) := by decide +kernel
theorem dX11_flaw_32 : decode cX11_flaw 32 = .ok (.ireturn, 1) := by decide +kernel
set_option maxRecDepth 20000 in
theorem ggX11_begin_X11_requireArgument : GoodIn wsX11_begin wsX11_requireArgument := goodIn_ca (goodIn_r _ [6, 7, 8] (by decide +kernel) (by decide +kernel)) (goodIn_sub (fun _ h => List.mem_cons_of_mem _ (List.mem_append_left _ (List.mem_append_right _ h))) (by decide +kernel))
set_option maxRecDepth 20000 in
theorem gX11_begin_X11_requireArgument : GoodIn wsX11_begin (va_wsS RX11 34 yX11_requireArgument wsX11_requireArgument) := goodIn_app (goodIn_of _ (by decide +kernel)) ggX11_begin_X11_requireArgument
set_option maxRecDepth 20000 in
theorem ggX11_begin_X11_requireState : GoodIn wsX11_begin wsX11_requireState := goodIn_ca (goodIn_r _ [11, 12, 13] (by decide +kernel) (by decide +kernel)) (goodIn_sub (fun _ h => List.mem_cons_of_mem _ (List.mem_append_right _ h)) (by decide +kernel))
set_option maxRecDepth 20000 in
theorem gX11_begin_X11_requireState : GoodIn wsX11_begin (va_wsS RX11 51 yX11_requireState wsX11_requireState) := goodIn_app (goodIn_of _ (by decide +kernel)) ggX11_begin_X11_requireState
set_option maxRecDepth 20000 in
theorem ggX11_begin_X5_keep : GoodIn wsX11_begin wsX5_keep := goodIn_r _ [18, 19, 20, 21, 22, 23, 17, 24, 25, 26, 27, 28, 29, 30, 31, 32, 33, 34, 35, 36, 37, 38, 39, 40, 41, 42, 43, 44, 45, 46, 47, 48, 49, 50, 51, 52, 5, 53, 54, 55, 56, 57, 58, 59, 60, 61, 62, 63, 64, 65, 66, 67, 68, 69, 70, 71, 72, 73, 74, 75, 76, 77, 78, 79, 80, 81, 82, 83, 84, 85, 86, 87, 88, 89, 90, 91, 92, 93, 94, 95, 96, 97, 98, 99, 100, 101, 102, 103, 104, 105, 106, 107, 108, 109, 230, 231, 211, 212, 213, 214, 215, 216, 217, 218, 219, 220, 221, 222, 223, 224, 232, 233, 234, 235, 236, 237, 238, 239, 240, 225, 226, 227, 228, 229, 241, 242, 243, 244, 245] (by decide +kernel) (by decide +kernel)
set_option maxRecDepth 20000 in
theorem gX11_begin_X5_keep : GoodIn wsX11_begin (wsV RX11 54 RX5 yX5_keep wsX5_keep) := goodIn_app (goodIn_of _ (by decide +kernel)) ggX11_begin_X5_keep
set_option maxRecDepth 20000 in
theorem ggX11_begin_X0_startRound : GoodIn wsX11_begin wsX0_startRound := goodIn_r _ [113, 31, 39, 40, 35, 37, 36, 34, 30, 114, 115, 116, 87, 117, 89, 90, 93, 118, 119, 120, 121, 122, 123, 124, 97, 125, 99, 126, 127, 128, 129, 65, 130, 68, 131, 132, 133, 134, 67, 135, 136, 137, 74, 138, 139, 140, 141, 142, 143, 144, 145, 146, 76, 147, 148, 149, 150, 151, 152, 153, 46, 154, 51, 155, 156, 157, 158, 48, 159, 160, 161, 162, 163, 164, 165, 166, 50, 167, 168, 169, 170, 171, 172, 56, 173, 174, 175, 176, 177, 49, 178, 179, 180, 181, 182, 183, 184, 185, 186, 187, 188, 189, 92, 190, 191, 192, 193, 194, 195, 196, 197, 91, 198, 199, 200, 201, 202, 203, 204, 205, 206, 5, 207, 211, 212, 213, 214, 215, 216, 217, 218, 219, 220, 221, 222, 223, 224, 236, 237, 225, 226, 227, 228, 229, 241, 238, 232, 233, 234, 235] (by decide +kernel) (by decide +kernel)
set_option maxRecDepth 20000 in
theorem gX11_begin_X0_startRound : GoodIn wsX11_begin (wsV RX11 174 RX0 yX0_startRound wsX0_startRound) := goodIn_app (goodIn_of _ (by decide +kernel)) ggX11_begin_X0_startRound
theorem dX11_begin_0 : decode cX11_begin 0 = .ok (.iload_n 1, 1) := by decide +kernel
theorem dX11_begin_1 : decode cX11_begin 1 = .ok (.ifCond .lt 7, 3) := by decide +kernel
theorem dX11_begin_4 : decode cX11_begin 4 = .ok (.iconst 1, 1) := by decide +kernel
theorem dX11_begin_5 : decode cX11_begin 5 = .ok (.goto 4, 3) := by decide +kernel
theorem dX11_begin_8 : decode cX11_begin 8 = .ok (.iconst 0, 1) := by decide +kernel
theorem dX11_begin_9 : decode cX11_begin 9 = .ok (.invokestatic 34, 3) := by decide +kernel
theorem dX11_begin_12 : decode cX11_begin 12 = .ok (.aload_n 0, 1) := by decide +kernel
theorem dX11_begin_13 : decode cX11_begin 13 = .ok (.getfield 10, 3) := by decide +kernel
theorem dX11_begin_16 : decode cX11_begin 16 = .ok (.getfield 38, 3) := by decide +kernel
theorem dX11_begin_19 : decode cX11_begin 19 = .ok (.ifCond .ne 7, 3) := by decide +kernel
theorem dX11_begin_22 : decode cX11_begin 22 = .ok (.iconst 1, 1) := by decide +kernel
theorem dX11_begin_23 : decode cX11_begin 23 = .ok (.goto 4, 3) := by decide +kernel
theorem dX11_begin_26 : decode cX11_begin 26 = .ok (.iconst 0, 1) := by decide +kernel
theorem dX11_begin_27 : decode cX11_begin 27 = .ok (.invokestatic 51, 3) := by decide +kernel
theorem dX11_begin_30 : decode cX11_begin 30 = .ok (.aload_n 0, 1) := by decide +kernel
theorem dX11_begin_31 : decode cX11_begin 31 = .ok (.getfield 19, 3) := by decide +kernel
theorem dX11_begin_34 : decode cX11_begin 34 = .ok (.aload_n 0, 1) := by decide +kernel
theorem dX11_begin_35 : decode cX11_begin 35 = .ok (.getfield 10, 3) := by decide +kernel
theorem dX11_begin_38 : decode cX11_begin 38 = .ok (.invokevirtual 54, 3) := by decide +kernel
theorem dX11_begin_41 : decode cX11_begin 41 = .ok (.aload_n 0, 1) := by decide +kernel
theorem dX11_begin_42 : decode cX11_begin 42 = .ok (.getfield 10, 3) := by decide +kernel
theorem dX11_begin_45 : decode cX11_begin 45 = .ok (.getfield 164, 3) := by decide +kernel
theorem dX11_begin_48 : decode cX11_begin 48 = .ok (.iload_n 1, 1) := by decide +kernel
theorem dX11_begin_49 : decode cX11_begin 49 = .ok (.i2l, 1) := by decide +kernel
theorem dX11_begin_50 : decode cX11_begin 50 = .ok (.putfield 168, 3) := by decide +kernel
theorem dX11_begin_53 : decode cX11_begin 53 = .ok (.aload_n 0, 1) := by decide +kernel
theorem dX11_begin_54 : decode cX11_begin 54 = .ok (.getfield 10, 3) := by decide +kernel
theorem dX11_begin_57 : decode cX11_begin 57 = .ok (.iconst 0, 1) := by decide +kernel
theorem dX11_begin_58 : decode cX11_begin 58 = .ok (.invokevirtual 174, 3) := by decide +kernel
theorem dX11_begin_61 : decode cX11_begin 61 = .ok (.aload_n 0, 1) := by decide +kernel
theorem dX11_begin_62 : decode cX11_begin 62 = .ok (.getfield 10, 3) := by decide +kernel
theorem dX11_begin_65 : decode cX11_begin 65 = .ok (.getfield 164, 3) := by decide +kernel
theorem dX11_begin_68 : decode cX11_begin 68 = .ok (.getfield 177, 3) := by decide +kernel
theorem dX11_begin_71 : decode cX11_begin 71 = .ok (.ireturn, 1) := by decide +kernel
set_option maxRecDepth 20000 in
theorem ggX11_play_X11_isBetween : GoodIn wsX11_play wsX11_isBetween := goodIn_r _ [6] (by decide +kernel) (by decide +kernel)
set_option maxRecDepth 20000 in
theorem gX11_play_X11_isBetween : GoodIn wsX11_play (va_wsS RX11 30 yX11_isBetween wsX11_isBetween) := goodIn_app (goodIn_of _ (by decide +kernel)) ggX11_play_X11_isBetween
set_option maxRecDepth 20000 in
theorem ggX11_play_X11_requireArgument : GoodIn wsX11_play wsX11_requireArgument := goodIn_ca (goodIn_r _ [9, 10, 11] (by decide +kernel) (by decide +kernel)) (goodIn_sub (fun _ h => List.mem_cons_of_mem _ (List.mem_append_left _ (List.mem_append_right _ h))) (by decide +kernel))
set_option maxRecDepth 20000 in
theorem gX11_play_X11_requireArgument : GoodIn wsX11_play (va_wsS RX11 34 yX11_requireArgument wsX11_requireArgument) := goodIn_app (goodIn_of _ (by decide +kernel)) ggX11_play_X11_requireArgument
set_option maxRecDepth 20000 in
theorem ggX11_play_X11_requireState : GoodIn wsX11_play wsX11_requireState := goodIn_ca (goodIn_r _ [14, 15, 16] (by decide +kernel) (by decide +kernel)) (goodIn_sub (fun _ h => List.mem_cons_of_mem _ (List.mem_append_right _ h)) (by decide +kernel))
set_option maxRecDepth 20000 in
theorem gX11_play_X11_requireState : GoodIn wsX11_play (va_wsS RX11 51 yX11_requireState wsX11_requireState) := goodIn_app (goodIn_of _ (by decide +kernel)) ggX11_play_X11_requireState
set_option maxRecDepth 20000 in
theorem ggX11_play_X5_keep : GoodIn wsX11_play wsX5_keep := goodIn_r _ [21, 22, 23, 24, 25, 26, 20, 27, 28, 29, 30, 31, 32, 33, 34, 35, 36, 37, 38, 39, 40, 41, 42, 43, 44, 45, 46, 47, 48, 49, 50, 51, 52, 53, 54, 55, 5, 56, 57, 58, 59, 60, 61, 62, 63, 64, 65, 66, 67, 68, 69, 70, 71, 72, 73, 74, 75, 76, 77, 78, 79, 80, 81, 82, 83, 84, 85, 86, 87, 88, 89, 90, 91, 92, 93, 94, 95, 96, 97, 98, 99, 100, 101, 102, 103, 104, 105, 106, 107, 108, 109, 110, 111, 112, 143, 144, 124, 125, 126, 127, 128, 129, 130, 131, 132, 133, 134, 135, 136, 137, 145, 146, 147, 148, 149, 150, 151, 152, 153, 138, 139, 140, 141, 142, 154, 155, 156, 157, 158] (by decide +kernel) (by decide +kernel)
set_option maxRecDepth 20000 in
theorem gX11_play_X5_keep : GoodIn wsX11_play (wsV RX11 54 RX5 yX5_keep wsX5_keep) := goodIn_app (goodIn_of _ (by decide +kernel)) ggX11_play_X5_keep
set_option maxRecDepth 20000 in
theorem ggX11_play_X7_letNextPlay : GoodIn wsX11_play wsX7_letNextPlay := goodIn_r _ [116, 93, 96, 117, 118, 119, 90, 120, 92, 95, 4, 5, 6, 138, 139, 140, 141, 142] (by decide +kernel) (by decide +kernel)
set_option maxRecDepth 20000 in
theorem gX11_play_X7_letNextPlay : GoodIn wsX11_play (wsV RX11 183 RX7 yX7_letNextPlay wsX7_letNextPlay) := goodIn_app (goodIn_of _ (by decide +kernel)) ggX11_play_X7_letNextPlay
theorem dX11_play_0 : decode cX11_play 0 = .ok (.iload_n 1, 1) := by decide +kernel
theorem dX11_play_1 : decode cX11_play 1 = .ok (.iconst 0, 1) := by decide +kernel
theorem dX11_play_2 : decode cX11_play 2 = .ok (.bipush 20, 2) := by decide +kernel
theorem dX11_play_4 : decode cX11_play 4 = .ok (.invokestatic 30, 3) := by decide +kernel
theorem dX11_play_7 : decode cX11_play 7 = .ok (.invokestatic 34, 3) := by decide +kernel
theorem dX11_play_10 : decode cX11_play 10 = .ok (.aload_n 0, 1) := by decide +kernel
theorem dX11_play_11 : decode cX11_play 11 = .ok (.getfield 10, 3) := by decide +kernel
theorem dX11_play_14 : decode cX11_play 14 = .ok (.getfield 38, 3) := by decide +kernel
theorem dX11_play_17 : decode cX11_play 17 = .ok (.iconst 1, 1) := by decide +kernel
theorem dX11_play_18 : decode cX11_play 18 = .ok (.if_icmp .ne 30, 3) := by decide +kernel
theorem dX11_play_21 : decode cX11_play 21 = .ok (.aload_n 0, 1) := by decide +kernel
theorem dX11_play_22 : decode cX11_play 22 = .ok (.getfield 10, 3) := by decide +kernel
theorem dX11_play_25 : decode cX11_play 25 = .ok (.getfield 164, 3) := by decide +kernel
theorem dX11_play_28 : decode cX11_play 28 = .ok (.getfield 180, 3) := by decide +kernel
theorem dX11_play_31 : decode cX11_play 31 = .ok (.aload_n 0, 1) := by decide +kernel
theorem dX11_play_32 : decode cX11_play 32 = .ok (.getfield 10, 3) := by decide +kernel
