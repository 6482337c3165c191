theorem dX12_neededMark_36 : decode cX12_neededMark 36 = .ok (.getfield 7, 3) := by decide +kernel
theorem dX12_neededMark_39 : decode cX12_neededMark 39 = .ok (.iconst 3, 1) := by decide +kernel
theorem dX12_neededMark_40 : decode cX12_neededMark 40 = .ok (.iaload, 1) := by decide +kernel
theorem dX12_neededMark_41 : decode cX12_neededMark 41 = .ok (.iconst 1, 1) := by decide +kernel
theorem dX12_neededMark_42 : decode cX12_neededMark 42 = .ok (.if_icmp .ne 16, 3) := by decide +kernel
theorem dX12_neededMark_45 : decode cX12_neededMark 45 = .ok (.aload_n 0, 1) := by decide +kernel
theorem dX12_neededMark_46 : decode cX12_neededMark 46 = .ok (.iload_n 1, 1) := by decide +kernel
theorem dX12_neededMark_47 : decode cX12_neededMark 47 = .ok (.iload_n 2, 1) := by decide +kernel
theorem dX12_neededMark_48 : decode cX12_neededMark 48 = .ok (.invokevirtual 128, 3) := by decide +kernel
theorem dX12_neededMark_51 : decode cX12_neededMark 51 = .ok (.ifCond .eq 7, 3) := by decide +kernel
theorem dX12_neededMark_54 : decode cX12_neededMark 54 = .ok (.iconst 0, 1) := by decide +kernel
theorem dX12_neededMark_55 : decode cX12_neededMark 55 = .ok (.goto 4, 3) := by decide +kernel
theorem dX12_neededMark_58 : decode cX12_neededMark 58 = .ok (.iconst 3, 1) := by decide +kernel
theorem dX12_neededMark_59 : decode cX12_neededMark 59 = .ok (.putfield 31, 3) := by decide +kernel
theorem dX12_neededMark_62 : decode cX12_neededMark 62 = .ok (.aload_n 0, 1) := by decide +kernel
theorem dX12_neededMark_63 : decode cX12_neededMark 63 = .ok (.getfield 31, 3) := by decide +kernel
theorem dX12_neededMark_66 : decode cX12_neededMark 66 = .ok (.ifCond .eq 5, 3) := by decide +kernel
theorem dX12_neededMark_69 : decode cX12_neededMark 69 = .ok (.iconst 0, 1) := by decide +kernel
theorem dX12_neededMark_70 : decode cX12_neededMark 70 = .ok (.ireturn, 1) := by decide +kernel
theorem dX12_neededMark_71 : decode cX12_neededMark 71 = .ok (.sipush 486, 3) := by decide +kernel
theorem dX12_neededMark_74 : decode cX12_neededMark 74 = .ok (.iload_n 1, 1) := by decide +kernel
theorem dX12_neededMark_75 : decode cX12_neededMark 75 = .ok (.iload_n 2, 1) := by decide +kernel
theorem dX12_neededMark_76 : decode cX12_neededMark 76 = .ok (.invokestatic 45, 3) := by decide +kernel
theorem dX12_neededMark_79 : decode cX12_neededMark 79 = .ok (.iadd, 1) := by decide +kernel
theorem dX12_neededMark_80 : decode cX12_neededMark 80 = .ok (.istore 4, 2) := by decide +kernel
theorem dX12_neededMark_82 : decode cX12_neededMark 82 = .ok (.aload_n 0, 1) := by decide +kernel
theorem dX12_neededMark_83 : decode cX12_neededMark 83 = .ok (.getfield 7, 3) := by decide +kernel
theorem dX12_neededMark_86 : decode cX12_neededMark 86 = .ok (.iload 4, 2) := by decide +kernel
theorem dX12_neededMark_88 : decode cX12_neededMark 88 = .ok (.iaload, 1) := by decide +kernel
theorem dX12_neededMark_89 : decode cX12_neededMark 89 = .ok (.istore 5, 2) := by decide +kernel
theorem dX12_neededMark_91 : decode cX12_neededMark 91 = .ok (.iconst (-1), 1) := by decide +kernel
theorem dX12_neededMark_92 : decode cX12_neededMark 92 = .ok (.istore 6, 2) := by decide +kernel
theorem dX12_neededMark_94 : decode cX12_neededMark 94 = .ok (.bipush 100, 2) := by decide +kernel
theorem dX12_neededMark_96 : decode cX12_neededMark 96 = .ok (.istore 7, 2) := by decide +kernel
theorem dX12_neededMark_98 : decode cX12_neededMark 98 = .ok (.iload 7, 2) := by decide +kernel
theorem dX12_neededMark_100 : decode cX12_neededMark 100 = .ok (.ifCond .lt 36, 3) := by decide +kernel
theorem dX12_neededMark_103 : decode cX12_neededMark 103 = .ok (.aload_n 0, 1) := by decide +kernel
theorem dX12_neededMark_104 : decode cX12_neededMark 104 = .ok (.getfield 7, 3) := by decide +kernel
theorem dX12_neededMark_107 : decode cX12_neededMark 107 = .ok (.iload 4, 2) := by decide +kernel
theorem dX12_neededMark_109 : decode cX12_neededMark 109 = .ok (.iload 7, 2) := by decide +kernel
theorem dX12_neededMark_111 : decode cX12_neededMark 111 = .ok (.iastore, 1) := by decide +kernel
theorem dX12_neededMark_112 : decode cX12_neededMark 112 = .ok (.aload_n 0, 1) := by decide +kernel
theorem dX12_neededMark_113 : decode cX12_neededMark 113 = .ok (.iload_n 2, 1) := by decide +kernel
theorem dX12_neededMark_114 : decode cX12_neededMark 114 = .ok (.invokevirtual 134, 3) := by decide +kernel
theorem dX12_neededMark_117 : decode cX12_neededMark 117 = .ok (.iload_n 3, 1) := by decide +kernel
theorem dX12_neededMark_118 : decode cX12_neededMark 118 = .ok (.if_icmp .lt 8, 3) := by decide +kernel
theorem dX12_neededMark_121 : decode cX12_neededMark 121 = .ok (.iload 7, 2) := by decide +kernel
theorem dX12_neededMark_123 : decode cX12_neededMark 123 = .ok (.goto 5, 3) := by decide +kernel
theorem dX12_neededMark_126 : decode cX12_neededMark 126 = .ok (.iload 6, 2) := by decide +kernel
theorem dX12_neededMark_128 : decode cX12_neededMark 128 = .ok (.istore 6, 2) := by decide +kernel
theorem dX12_neededMark_130 : decode cX12_neededMark 130 = .ok (.iinc 7 (-1), 3) := by decide +kernel
theorem dX12_neededMark_133 : decode cX12_neededMark 133 = .ok (.goto (-35), 3) := by decide +kernel
theorem dX12_neededMark_136 : decode cX12_neededMark 136 = .ok (.aload_n 0, 1) := by decide +kernel
theorem dX12_neededMark_137 : decode cX12_neededMark 137 = .ok (.getfield 7, 3) := by decide +kernel
theorem dX12_neededMark_140 : decode cX12_neededMark 140 = .ok (.iload 4, 2) := by decide +kernel
theorem dX12_neededMark_142 : decode cX12_neededMark 142 = .ok (.iload 5, 2) := by decide +kernel
theorem dX12_neededMark_144 : decode cX12_neededMark 144 = .ok (.iastore, 1) := by decide +kernel
theorem dX12_neededMark_145 : decode cX12_neededMark 145 = .ok (.iload 6, 2) := by decide +kernel
theorem dX12_neededMark_147 : decode cX12_neededMark 147 = .ok (.ireturn, 1) := by decide +kernel
set_option maxRecDepth 20000 in
theorem ggX12_strangest_X12_mean : GoodIn wsX12_strangest wsX12_mean := goodIn_r _ [6, 1, 7, 8, 9, 5, 10, 11, 12, 13, 14, 15, 16, 17, 18, 19, 20, 21, 22, 23, 24, 25, 26, 27, 28, 29] (by decide +kernel) (by decide +kernel)
set_option maxRecDepth 20000 in
theorem gX12_strangest_X12_mean : GoodIn wsX12_strangest (wsV RX12 116 RX12 yX12_mean wsX12_mean) := goodIn_app (goodIn_of _ (by decide +kernel)) ggX12_strangest_X12_mean
set_option maxRecDepth 20000 in
theorem ggX12_strangest_X12_counts : GoodIn wsX12_strangest wsX12_counts := goodIn_r _ [10, 1, 11, 12, 5, 13, 14, 15, 16, 17, 18, 19, 20, 21, 22, 23, 24, 25, 26, 27, 28, 29] (by decide +kernel) (by decide +kernel)
set_option maxRecDepth 20000 in
theorem gX12_strangest_X12_counts : GoodIn wsX12_strangest (wsV RX12 113 RX12 yX12_counts wsX12_counts) := goodIn_app (goodIn_of _ (by decide +kernel)) ggX12_strangest_X12_counts
set_option maxRecDepth 20000 in
theorem ggX12_strangest_X12_seat : GoodIn wsX12_strangest wsX12_seat := goodIn_r _ [13] (by decide +kernel) (by decide +kernel)
set_option maxRecDepth 20000 in
theorem gX12_strangest_X12_seat : GoodIn wsX12_strangest (va_wsS RX12 45 yX12_seat wsX12_seat) := goodIn_app (goodIn_of _ (by decide +kernel)) ggX12_strangest_X12_seat
theorem dX12_strangest_0 : decode cX12_strangest 0 = .ok (.iconst (-1), 1) := by decide +kernel
theorem dX12_strangest_1 : decode cX12_strangest 1 = .ok (.istore_n 1, 1) := by decide +kernel
theorem dX12_strangest_2 : decode cX12_strangest 2 = .ok (.iconst 0, 1) := by decide +kernel
theorem dX12_strangest_3 : decode cX12_strangest 3 = .ok (.istore_n 2, 1) := by decide +kernel
theorem dX12_strangest_4 : decode cX12_strangest 4 = .ok (.iconst 0, 1) := by decide +kernel
theorem dX12_strangest_5 : decode cX12_strangest 5 = .ok (.istore_n 3, 1) := by decide +kernel
theorem dX12_strangest_6 : decode cX12_strangest 6 = .ok (.iload_n 3, 1) := by decide +kernel
theorem dX12_strangest_7 : decode cX12_strangest 7 = .ok (.aload_n 0, 1) := by decide +kernel
theorem dX12_strangest_8 : decode cX12_strangest 8 = .ok (.getfield 7, 3) := by decide +kernel
theorem dX12_strangest_11 : decode cX12_strangest 11 = .ok (.iconst 0, 1) := by decide +kernel
theorem dX12_strangest_12 : decode cX12_strangest 12 = .ok (.iaload, 1) := by decide +kernel
theorem dX12_strangest_13 : decode cX12_strangest 13 = .ok (.if_icmp .ge 186, 3) := by decide +kernel
theorem dX12_strangest_16 : decode cX12_strangest 16 = .ok (.aload_n 0, 1) := by decide +kernel
theorem dX12_strangest_17 : decode cX12_strangest 17 = .ok (.getfield 7, 3) := by decide +kernel
theorem dX12_strangest_20 : decode cX12_strangest 20 = .ok (.iconst 3, 1) := by decide +kernel
theorem dX12_strangest_21 : decode cX12_strangest 21 = .ok (.iaload, 1) := by decide +kernel
theorem dX12_strangest_22 : decode cX12_strangest 22 = .ok (.iconst 1, 1) := by decide +kernel
theorem dX12_strangest_23 : decode cX12_strangest 23 = .ok (.if_icmp .ne 176, 3) := by decide +kernel
theorem dX12_strangest_26 : decode cX12_strangest 26 = .ok (.iconst (-1), 1) := by decide +kernel
theorem dX12_strangest_27 : decode cX12_strangest 27 = .ok (.istore 4, 2) := by decide +kernel
theorem dX12_strangest_29 : decode cX12_strangest 29 = .ok (.iconst 0, 1) := by decide +kernel
theorem dX12_strangest_30 : decode cX12_strangest 30 = .ok (.istore 5, 2) := by decide +kernel
theorem dX12_strangest_32 : decode cX12_strangest 32 = .ok (.iload 5, 2) := by decide +kernel
theorem dX12_strangest_34 : decode cX12_strangest 34 = .ok (.aload_n 0, 1) := by decide +kernel
theorem dX12_strangest_35 : decode cX12_strangest 35 = .ok (.getfield 7, 3) := by decide +kernel
theorem dX12_strangest_38 : decode cX12_strangest 38 = .ok (.bipush 8, 2) := by decide +kernel
theorem dX12_strangest_40 : decode cX12_strangest 40 = .ok (.iaload, 1) := by decide +kernel
theorem dX12_strangest_41 : decode cX12_strangest 41 = .ok (.if_icmp .ge 105, 3) := by decide +kernel
theorem dX12_strangest_44 : decode cX12_strangest 44 = .ok (.aload_n 0, 1) := by decide +kernel
theorem dX12_strangest_45 : decode cX12_strangest 45 = .ok (.getfield 7, 3) := by decide +kernel
theorem dX12_strangest_48 : decode cX12_strangest 48 = .ok (.sipush 462, 3) := by decide +kernel
theorem dX12_strangest_51 : decode cX12_strangest 51 = .ok (.iload 5, 2) := by decide +kernel
theorem dX12_strangest_53 : decode cX12_strangest 53 = .ok (.iadd, 1) := by decide +kernel
theorem dX12_strangest_54 : decode cX12_strangest 54 = .ok (.iaload, 1) := by decide +kernel
theorem dX12_strangest_55 : decode cX12_strangest 55 = .ok (.istore 6, 2) := by decide +kernel
theorem dX12_strangest_57 : decode cX12_strangest 57 = .ok (.aload_n 0, 1) := by decide +kernel
theorem dX12_strangest_58 : decode cX12_strangest 58 = .ok (.sipush 486, 3) := by decide +kernel
theorem dX12_strangest_61 : decode cX12_strangest 61 = .ok (.iload 6, 2) := by decide +kernel
theorem dX12_strangest_63 : decode cX12_strangest 63 = .ok (.iload_n 3, 1) := by decide +kernel
theorem dX12_strangest_64 : decode cX12_strangest 64 = .ok (.invokevirtual 116, 3) := by decide +kernel
theorem dX12_strangest_67 : decode cX12_strangest 67 = .ok (.istore 7, 2) := by decide +kernel
theorem dX12_strangest_69 : decode cX12_strangest 69 = .ok (.aload_n 0, 1) := by decide +kernel
theorem dX12_strangest_70 : decode cX12_strangest 70 = .ok (.sipush 486, 3) := by decide +kernel
theorem dX12_strangest_73 : decode cX12_strangest 73 = .ok (.iload_n 3, 1) := by decide +kernel
theorem dX12_strangest_74 : decode cX12_strangest 74 = .ok (.iload 6, 2) := by decide +kernel
theorem dX12_strangest_76 : decode cX12_strangest 76 = .ok (.invokevirtual 113, 3) := by decide +kernel
theorem dX12_strangest_79 : decode cX12_strangest 79 = .ok (.ifCond .eq 61, 3) := by decide +kernel
theorem dX12_strangest_82 : decode cX12_strangest 82 = .ok (.iload 7, 2) := by decide +kernel
theorem dX12_strangest_84 : decode cX12_strangest 84 = .ok (.iconst (-1), 1) := by decide +kernel
theorem dX12_strangest_85 : decode cX12_strangest 85 = .ok (.if_icmp .eq 55, 3) := by decide +kernel
theorem dX12_strangest_88 : decode cX12_strangest 88 = .ok (.sipush 1000, 3) := by decide +kernel
theorem dX12_strangest_91 : decode cX12_strangest 91 = .ok (.aload_n 0, 1) := by decide +kernel
theorem dX12_strangest_92 : decode cX12_strangest 92 = .ok (.getfield 7, 3) := by decide +kernel
theorem dX12_strangest_95 : decode cX12_strangest 95 = .ok (.sipush 486, 3) := by decide +kernel
theorem dX12_strangest_98 : decode cX12_strangest 98 = .ok (.iload_n 3, 1) := by decide +kernel
theorem dX12_strangest_99 : decode cX12_strangest 99 = .ok (.iload 6, 2) := by decide +kernel
theorem dX12_strangest_101 : decode cX12_strangest 101 = .ok (.invokestatic 45, 3) := by decide +kernel
theorem dX12_strangest_104 : decode cX12_strangest 104 = .ok (.iadd, 1) := by decide +kernel
theorem dX12_strangest_105 : decode cX12_strangest 105 = .ok (.iaload, 1) := by decide +kernel
theorem dX12_strangest_106 : decode cX12_strangest 106 = .ok (.imul, 1) := by decide +kernel
theorem dX12_strangest_107 : decode cX12_strangest 107 = .ok (.iload 7, 2) := by decide +kernel
theorem dX12_strangest_109 : decode cX12_strangest 109 = .ok (.isub, 1) := by decide +kernel
theorem dX12_strangest_110 : decode cX12_strangest 110 = .ok (.istore 8, 2) := by decide +kernel
theorem dX12_strangest_112 : decode cX12_strangest 112 = .ok (.iload 4, 2) := by decide +kernel
theorem dX12_strangest_114 : decode cX12_strangest 114 = .ok (.iconst (-1), 1) := by decide +kernel
theorem dX12_strangest_115 : decode cX12_strangest 115 = .ok (.if_icmp .ne 7, 3) := by decide +kernel
theorem dX12_strangest_118 : decode cX12_strangest 118 = .ok (.iconst 0, 1) := by decide +kernel
theorem dX12_strangest_119 : decode cX12_strangest 119 = .ok (.goto 5, 3) := by decide +kernel
theorem dX12_strangest_122 : decode cX12_strangest 122 = .ok (.iload 4, 2) := by decide +kernel
theorem dX12_strangest_124 : decode cX12_strangest 124 = .ok (.iload 8, 2) := by decide +kernel
theorem dX12_strangest_126 : decode cX12_strangest 126 = .ok (.ifCond .ge 9, 3) := by decide +kernel
theorem dX12_strangest_129 : decode cX12_strangest 129 = .ok (.iload 8, 2) := by decide +kernel
theorem dX12_strangest_131 : decode cX12_strangest 131 = .ok (.ineg, 1) := by decide +kernel
theorem dX12_strangest_132 : decode cX12_strangest 132 = .ok (.goto 5, 3) := by decide +kernel
theorem dX12_strangest_135 : decode cX12_strangest 135 = .ok (.iload 8, 2) := by decide +kernel
theorem dX12_strangest_137 : decode cX12_strangest 137 = .ok (.iadd, 1) := by decide +kernel
theorem dX12_strangest_138 : decode cX12_strangest 138 = .ok (.istore 4, 2) := by decide +kernel
theorem dX12_strangest_140 : decode cX12_strangest 140 = .ok (.iinc 5 1, 3) := by decide +kernel
theorem dX12_strangest_143 : decode cX12_strangest 143 = .ok (.goto (-111), 3) := by decide +kernel
theorem dX12_strangest_146 : decode cX12_strangest 146 = .ok (.iload 4, 2) := by decide +kernel
theorem dX12_strangest_148 : decode cX12_strangest 148 = .ok (.iconst (-1), 1) := by decide +kernel
theorem dX12_strangest_149 : decode cX12_strangest 149 = .ok (.if_icmp .eq 18, 3) := by decide +kernel
theorem dX12_strangest_152 : decode cX12_strangest 152 = .ok (.iload_n 1, 1) := by decide +kernel
theorem dX12_strangest_153 : decode cX12_strangest 153 = .ok (.iconst (-1), 1) := by decide +kernel
theorem dX12_strangest_154 : decode cX12_strangest 154 = .ok (.if_icmp .eq 9, 3) := by decide +kernel
theorem dX12_strangest_157 : decode cX12_strangest 157 = .ok (.iload 4, 2) := by decide +kernel
theorem dX12_strangest_159 : decode cX12_strangest 159 = .ok (.iload_n 2, 1) := by decide +kernel
theorem dX12_strangest_160 : decode cX12_strangest 160 = .ok (.if_icmp .le 7, 3) := by decide +kernel
theorem dX12_strangest_163 : decode cX12_strangest 163 = .ok (.iconst 1, 1) := by decide +kernel
theorem dX12_strangest_164 : decode cX12_strangest 164 = .ok (.goto 4, 3) := by decide +kernel
theorem dX12_strangest_167 : decode cX12_strangest 167 = .ok (.iconst 0, 1) := by decide +kernel
theorem dX12_strangest_168 : decode cX12_strangest 168 = .ok (.istore 5, 2) := by decide +kernel
theorem dX12_strangest_170 : decode cX12_strangest 170 = .ok (.iload 5, 2) := by decide +kernel
theorem dX12_strangest_172 : decode cX12_strangest 172 = .ok (.ifCond .eq 7, 3) := by decide +kernel
theorem dX12_strangest_175 : decode cX12_strangest 175 = .ok (.iload_n 3, 1) := by decide +kernel
theorem dX12_strangest_176 : decode cX12_strangest 176 = .ok (.goto 4, 3) := by decide +kernel
theorem dX12_strangest_179 : decode cX12_strangest 179 = .ok (.iload_n 1, 1) := by decide +kernel
theorem dX12_strangest_180 : decode cX12_strangest 180 = .ok (.istore_n 1, 1) := by decide +kernel
theorem dX12_strangest_181 : decode cX12_strangest 181 = .ok (.iload 5, 2) := by decide +kernel
theorem dX12_strangest_183 : decode cX12_strangest 183 = .ok (.ifCond .eq 8, 3) := by decide +kernel
theorem dX12_strangest_186 : decode cX12_strangest 186 = .ok (.iload 4, 2) := by decide +kernel
theorem dX12_strangest_188 : decode cX12_strangest 188 = .ok (.goto 4, 3) := by decide +kernel
theorem dX12_strangest_191 : decode cX12_strangest 191 = .ok (.iload_n 2, 1) := by decide +kernel
theorem dX12_strangest_192 : decode cX12_strangest 192 = .ok (.istore_n 2, 1) := by decide +kernel
theorem dX12_strangest_193 : decode cX12_strangest 193 = .ok (.iinc 3 1, 3) := by decide +kernel
theorem dX12_strangest_196 : decode cX12_strangest 196 = .ok (.goto (-190), 3) := by decide +kernel
theorem dX12_strangest_199 : decode cX12_strangest 199 = .ok (.iload_n 1, 1) := by decide +kernel
theorem dX12_strangest_200 : decode cX12_strangest 200 = .ok (.ireturn, 1) := by decide +kernel
set_option maxRecDepth 20000 in
theorem ggX12_strangestJuror_X12_strangest : GoodIn wsX12_strangestJuror wsX12_strangest := goodIn_r _ [6, 7, 8, 9, 10, 5, 11, 12, 13, 14, 15, 16, 17, 18, 19, 20, 21, 22, 23, 24, 25, 26, 27, 28, 29, 30, 31, 32, 33, 34] (by decide +kernel) (by decide +kernel)
set_option maxRecDepth 20000 in
theorem gX12_strangestJuror_X12_strangest : GoodIn wsX12_strangestJuror (wsV RX12 173 RX12 yX12_strangest wsX12_strangest) := goodIn_app (goodIn_of _ (by decide +kernel)) ggX12_strangestJuror_X12_strangest
theorem dX12_strangestJuror_0 : decode cX12_strangestJuror 0 = .ok (.aload_n 0, 1) := by decide +kernel
theorem dX12_strangestJuror_1 : decode cX12_strangestJuror 1 = .ok (.iconst 0, 1) := by decide +kernel
theorem dX12_strangestJuror_2 : decode cX12_strangestJuror 2 = .ok (.putfield 31, 3) := by decide +kernel
theorem dX12_strangestJuror_5 : decode cX12_strangestJuror 5 = .ok (.aload_n 0, 1) := by decide +kernel
theorem dX12_strangestJuror_6 : decode cX12_strangestJuror 6 = .ok (.invokevirtual 173, 3) := by decide +kernel
theorem dX12_strangestJuror_9 : decode cX12_strangestJuror 9 = .ok (.ireturn, 1) := by decide +kernel
set_option maxRecDepth 20000 in
theorem ggX12_type_X12_in : GoodIn wsX12_type wsX12_in := goodIn_r _ [7] (by decide +kernel) (by decide +kernel)
set_option maxRecDepth 20000 in
theorem gX12_type_X12_in : GoodIn wsX12_type (va_wsS RX12 41 yX12_in wsX12_in) := goodIn_app (goodIn_of _ (by decide +kernel)) ggX12_type_X12_in
theorem dX12_type_0 : decode cX12_type 0 = .ok (.aload_n 0, 1) := by decide +kernel
theorem dX12_type_1 : decode cX12_type 1 = .ok (.iload_n 1, 1) := by decide +kernel
theorem dX12_type_2 : decode cX12_type 2 = .ok (.bipush 32, 2) := by decide +kernel
theorem dX12_type_4 : decode cX12_type 4 = .ok (.bipush 126, 2) := by decide +kernel
theorem dX12_type_6 : decode cX12_type 6 = .ok (.invokestatic 41, 3) := by decide +kernel
theorem dX12_type_9 : decode cX12_type 9 = .ok (.ifCond .ne 7, 3) := by decide +kernel
theorem dX12_type_12 : decode cX12_type 12 = .ok (.iconst 1, 1) := by decide +kernel
theorem dX12_type_13 : decode cX12_type 13 = .ok (.goto 17, 3) := by decide +kernel
theorem dX12_type_16 : decode cX12_type 16 = .ok (.aload_n 0, 1) := by decide +kernel
theorem dX12_type_17 : decode cX12_type 17 = .ok (.getfield 176, 3) := by decide +kernel
theorem dX12_type_20 : decode cX12_type 20 = .ok (.bipush 40, 2) := by decide +kernel
theorem dX12_type_22 : decode cX12_type 22 = .ok (.if_icmp .ne 7, 3) := by decide +kernel
theorem dX12_type_25 : decode cX12_type 25 = .ok (.iconst 2, 1) := by decide +kernel
theorem dX12_type_26 : decode cX12_type 26 = .ok (.goto 4, 3) := by decide +kernel
theorem dX12_type_29 : decode cX12_type 29 = .ok (.iconst 0, 1) := by decide +kernel
theorem dX12_type_30 : decode cX12_type 30 = .ok (.putfield 31, 3) := by decide +kernel
theorem dX12_type_33 : decode cX12_type 33 = .ok (.aload_n 0, 1) := by decide +kernel
theorem dX12_type_34 : decode cX12_type 34 = .ok (.getfield 31, 3) := by decide +kernel
theorem dX12_type_37 : decode cX12_type 37 = .ok (.ifCond .eq 5, 3) := by decide +kernel
theorem dX12_type_40 : decode cX12_type 40 = .ok (.iconst 0, 1) := by decide +kernel
theorem dX12_type_41 : decode cX12_type 41 = .ok (.ireturn, 1) := by decide +kernel
theorem dX12_type_42 : decode cX12_type 42 = .ok (.aload_n 0, 1) := by decide +kernel
theorem dX12_type_43 : decode cX12_type 43 = .ok (.getfield 16, 3) := by decide +kernel
theorem dX12_type_46 : decode cX12_type 46 = .ok (.aload_n 0, 1) := by decide +kernel
theorem dX12_type_47 : decode cX12_type 47 = .ok (.getfield 176, 3) := by decide +kernel
theorem dX12_type_50 : decode cX12_type 50 = .ok (.iload_n 1, 1) := by decide +kernel
theorem dX12_type_51 : decode cX12_type 51 = .ok (.iastore, 1) := by decide +kernel
theorem dX12_type_52 : decode cX12_type 52 = .ok (.aload_n 0, 1) := by decide +kernel
theorem dX12_type_53 : decode cX12_type 53 = .ok (.dup, 1) := by decide +kernel
theorem dX12_type_54 : decode cX12_type 54 = .ok (.getfield 176, 3) := by decide +kernel
theorem dX12_type_57 : decode cX12_type 57 = .ok (.iconst 1, 1) := by decide +kernel
theorem dX12_type_58 : decode cX12_type 58 = .ok (.iadd, 1) := by decide +kernel
theorem dX12_type_59 : decode cX12_type 59 = .ok (.putfield 176, 3) := by decide +kernel
theorem dX12_type_62 : decode cX12_type 62 = .ok (.aload_n 0, 1) := by decide +kernel
theorem dX12_type_63 : decode cX12_type 63 = .ok (.getfield 176, 3) := by decide +kernel
theorem dX12_type_66 : decode cX12_type 66 = .ok (.ireturn, 1) := by decide +kernel
theorem dX12_clearText_0 : decode cX12_clearText 0 = .ok (.aload_n 0, 1) := by decide +kernel
theorem dX12_clearText_1 : decode cX12_clearText 1 = .ok (.iconst 0, 1) := by decide +kernel
theorem dX12_clearText_2 : decode cX12_clearText 2 = .ok (.putfield 31, 3) := by decide +kernel
theorem dX12_clearText_5 : decode cX12_clearText 5 = .ok (.aload_n 0, 1) := by decide +kernel
theorem dX12_clearText_6 : decode cX12_clearText 6 = .ok (.getfield 176, 3) := by decide +kernel
theorem dX12_clearText_9 : decode cX12_clearText 9 = .ok (.istore_n 1, 1) := by decide +kernel
theorem dX12_clearText_10 : decode cX12_clearText 10 = .ok (.aload_n 0, 1) := by decide +kernel
theorem dX12_clearText_11 : decode cX12_clearText 11 = .ok (.iconst 0, 1) := by decide +kernel
theorem dX12_clearText_12 : decode cX12_clearText 12 = .ok (.putfield 176, 3) := by decide +kernel
theorem dX12_clearText_15 : decode cX12_clearText 15 = .ok (.iload_n 1, 1) := by decide +kernel
theorem dX12_clearText_16 : decode cX12_clearText 16 = .ok (.ireturn, 1) := by decide +kernel
theorem dX12_here_0 : decode cX12_here 0 = .ok (.aload_n 0, 1) := by decide +kernel
theorem dX12_here_1 : decode cX12_here 1 = .ok (.getfield 179, 3) := by decide +kernel
theorem dX12_here_4 : decode cX12_here 4 = .ok (.aload_n 0, 1) := by decide +kernel
theorem dX12_here_5 : decode cX12_here 5 = .ok (.getfield 176, 3) := by decide +kernel
theorem dX12_here_8 : decode cX12_here 8 = .ok (.if_icmp .ge 15, 3) := by decide +kernel
theorem dX12_here_11 : decode cX12_here 11 = .ok (.aload_n 0, 1) := by decide +kernel
theorem dX12_here_12 : decode cX12_here 12 = .ok (.getfield 16, 3) := by decide +kernel
theorem dX12_here_15 : decode cX12_here 15 = .ok (.aload_n 0, 1) := by decide +kernel
theorem dX12_here_16 : decode cX12_here 16 = .ok (.getfield 179, 3) := by decide +kernel
theorem dX12_here_19 : decode cX12_here 19 = .ok (.iaload, 1) := by decide +kernel
theorem dX12_here_20 : decode cX12_here 20 = .ok (.goto 4, 3) := by decide +kernel
theorem dX12_here_23 : decode cX12_here 23 = .ok (.iconst (-1), 1) := by decide +kernel
theorem dX12_here_24 : decode cX12_here 24 = .ok (.ireturn, 1) := by decide +kernel
theorem dX12_isFit_0 : decode cX12_isFit 0 = .ok (.iload_n 1, 1) := by decide +kernel
theorem dX12_isFit_1 : decode cX12_isFit 1 = .ok (.aload_n 0, 1) := by decide +kernel
theorem dX12_isFit_2 : decode cX12_isFit 2 = .ok (.getfield 7, 3) := by decide +kernel
theorem dX12_isFit_5 : decode cX12_isFit 5 = .ok (.iconst 5, 1) := by decide +kernel
theorem dX12_isFit_6 : decode cX12_isFit 6 = .ok (.iaload, 1) := by decide +kernel
theorem dX12_isFit_7 : decode cX12_isFit 7 = .ok (.if_icmp .ge 7, 3) := by decide +kernel
theorem dX12_isFit_10 : decode cX12_isFit 10 = .ok (.iconst 1, 1) := by decide +kernel
theorem dX12_isFit_11 : decode cX12_isFit 11 = .ok (.goto 4, 3) := by decide +kernel
theorem dX12_isFit_14 : decode cX12_isFit 14 = .ok (.iconst 0, 1) := by decide +kernel
theorem dX12_isFit_15 : decode cX12_isFit 15 = .ok (.istore_n 2, 1) := by decide +kernel
theorem dX12_isFit_16 : decode cX12_isFit 16 = .ok (.iconst 0, 1) := by decide +kernel
theorem dX12_isFit_17 : decode cX12_isFit 17 = .ok (.istore_n 3, 1) := by decide +kernel
theorem dX12_isFit_18 : decode cX12_isFit 18 = .ok (.iload_n 3, 1) := by decide +kernel
theorem dX12_isFit_19 : decode cX12_isFit 19 = .ok (.aload_n 0, 1) := by decide +kernel
theorem dX12_isFit_20 : decode cX12_isFit 20 = .ok (.getfield 76, 3) := by decide +kernel
theorem dX12_isFit_23 : decode cX12_isFit 23 = .ok (.if_icmp .ge 29, 3) := by decide +kernel
theorem dX12_isFit_26 : decode cX12_isFit 26 = .ok (.iload_n 2, 1) := by decide +kernel
theorem dX12_isFit_27 : decode cX12_isFit 27 = .ok (.ifCond .eq 17, 3) := by decide +kernel
theorem dX12_isFit_30 : decode cX12_isFit 30 = .ok (.aload_n 0, 1) := by decide +kernel
theorem dX12_isFit_31 : decode cX12_isFit 31 = .ok (.getfield 25, 3) := by decide +kernel
theorem dX12_isFit_34 : decode cX12_isFit 34 = .ok (.iload_n 3, 1) := by decide +kernel
theorem dX12_isFit_35 : decode cX12_isFit 35 = .ok (.iaload, 1) := by decide +kernel
theorem dX12_isFit_36 : decode cX12_isFit 36 = .ok (.iload_n 1, 1) := by decide +kernel
theorem dX12_isFit_37 : decode cX12_isFit 37 = .ok (.if_icmp .eq 7, 3) := by decide +kernel
theorem dX12_isFit_40 : decode cX12_isFit 40 = .ok (.iconst 1, 1) := by decide +kernel
theorem dX12_isFit_41 : decode cX12_isFit 41 = .ok (.goto 4, 3) := by decide +kernel
theorem dX12_isFit_44 : decode cX12_isFit 44 = .ok (.iconst 0, 1) := by decide +kernel
theorem dX12_isFit_45 : decode cX12_isFit 45 = .ok (.istore_n 2, 1) := by decide +kernel
theorem dX12_isFit_46 : decode cX12_isFit 46 = .ok (.iinc 3 1, 3) := by decide +kernel
theorem dX12_isFit_49 : decode cX12_isFit 49 = .ok (.goto (-31), 3) := by decide +kernel
theorem dX12_isFit_52 : decode cX12_isFit 52 = .ok (.iload_n 2, 1) := by decide +kernel
theorem dX12_isFit_53 : decode cX12_isFit 53 = .ok (.ireturn, 1) := by decide +kernel
set_option maxRecDepth 20000 in
theorem ggX12_faultOf_X12_here : GoodIn wsX12_faultOf wsX12_here := goodIn_r _ [9, 1, 4, 10, 19, 20, 21, 22, 23, 24, 25, 26, 27, 28, 29, 30] (by decide +kernel) (by decide +kernel)
set_option maxRecDepth 20000 in
theorem gX12_faultOf_X12_here : GoodIn wsX12_faultOf (wsV RX12 182 RX12 yX12_here wsX12_here) := goodIn_app (goodIn_of _ (by decide +kernel)) ggX12_faultOf_X12_here
set_option maxRecDepth 20000 in
theorem ggX12_faultOf_X12_in : GoodIn wsX12_faultOf wsX12_in := goodIn_r _ [13] (by decide +kernel) (by decide +kernel)
set_option maxRecDepth 20000 in
theorem gX12_faultOf_X12_in : GoodIn wsX12_faultOf (va_wsS RX12 41 yX12_in wsX12_in) := goodIn_app (goodIn_of _ (by decide +kernel)) ggX12_faultOf_X12_in
set_option maxRecDepth 20000 in
theorem ggX12_faultOf_X12_isFit : GoodIn wsX12_faultOf wsX12_isFit := goodIn_r _ [17, 18, 2, 3, 19, 20, 21, 22, 23, 24, 25, 26, 27, 28, 29, 30] (by decide +kernel) (by decide +kernel)
set_option maxRecDepth 20000 in
theorem gX12_faultOf_X12_isFit : GoodIn wsX12_faultOf (wsV RX12 185 RX12 yX12_isFit wsX12_isFit) := goodIn_app (goodIn_of _ (by decide +kernel)) ggX12_faultOf_X12_isFit
theorem dX12_faultOf_0 : decode cX12_faultOf 0 = .ok (.aload_n 0, 1) := by decide +kernel
theorem dX12_faultOf_1 : decode cX12_faultOf 1 = .ok (.iconst 0, 1) := by decide +kernel
theorem dX12_faultOf_2 : decode cX12_faultOf 2 = .ok (.putfield 179, 3) := by decide +kernel
theorem dX12_faultOf_5 : decode cX12_faultOf 5 = .ok (.aload_n 0, 1) := by decide +kernel
theorem dX12_faultOf_6 : decode cX12_faultOf 6 = .ok (.iconst 0, 1) := by decide +kernel
theorem dX12_faultOf_7 : decode cX12_faultOf 7 = .ok (.putfield 76, 3) := by decide +kernel
theorem dX12_faultOf_10 : decode cX12_faultOf 10 = .ok (.iconst (-1), 1) := by decide +kernel
theorem dX12_faultOf_11 : decode cX12_faultOf 11 = .ok (.istore_n 1, 1) := by decide +kernel
theorem dX12_faultOf_12 : decode cX12_faultOf 12 = .ok (.iconst 1, 1) := by decide +kernel
theorem dX12_faultOf_13 : decode cX12_faultOf 13 = .ok (.istore_n 2, 1) := by decide +kernel
theorem dX12_faultOf_14 : decode cX12_faultOf 14 = .ok (.iload_n 2, 1) := by decide +kernel
theorem dX12_faultOf_15 : decode cX12_faultOf 15 = .ok (.ifCond .eq 161, 3) := by decide +kernel
theorem dX12_faultOf_18 : decode cX12_faultOf 18 = .ok (.aload_n 0, 1) := by decide +kernel
theorem dX12_faultOf_19 : decode cX12_faultOf 19 = .ok (.getfield 179, 3) := by decide +kernel
theorem dX12_faultOf_22 : decode cX12_faultOf 22 = .ok (.istore_n 3, 1) := by decide +kernel
theorem dX12_faultOf_23 : decode cX12_faultOf 23 = .ok (.iconst 0, 1) := by decide +kernel
theorem dX12_faultOf_24 : decode cX12_faultOf 24 = .ok (.istore 4, 2) := by decide +kernel
theorem dX12_faultOf_26 : decode cX12_faultOf 26 = .ok (.aload_n 0, 1) := by decide +kernel
theorem dX12_faultOf_27 : decode cX12_faultOf 27 = .ok (.getfield 179, 3) := by decide +kernel
theorem dX12_faultOf_30 : decode cX12_faultOf 30 = .ok (.iload_n 3, 1) := by decide +kernel
theorem dX12_faultOf_31 : decode cX12_faultOf 31 = .ok (.iconst 2, 1) := by decide +kernel
theorem dX12_faultOf_32 : decode cX12_faultOf 32 = .ok (.iadd, 1) := by decide +kernel
theorem dX12_faultOf_33 : decode cX12_faultOf 33 = .ok (.if_icmp .ge 45, 3) := by decide +kernel
theorem dX12_faultOf_36 : decode cX12_faultOf 36 = .ok (.aload_n 0, 1) := by decide +kernel
theorem dX12_faultOf_37 : decode cX12_faultOf 37 = .ok (.invokevirtual 182, 3) := by decide +kernel
theorem dX12_faultOf_40 : decode cX12_faultOf 40 = .ok (.bipush 48, 2) := by decide +kernel
theorem dX12_faultOf_42 : decode cX12_faultOf 42 = .ok (.bipush 57, 2) := by decide +kernel
theorem dX12_faultOf_44 : decode cX12_faultOf 44 = .ok (.invokestatic 41, 3) := by decide +kernel
theorem dX12_faultOf_47 : decode cX12_faultOf 47 = .ok (.ifCond .eq 31, 3) := by decide +kernel
theorem dX12_faultOf_50 : decode cX12_faultOf 50 = .ok (.bipush 10, 2) := by decide +kernel
theorem dX12_faultOf_52 : decode cX12_faultOf 52 = .ok (.iload 4, 2) := by decide +kernel
theorem dX12_faultOf_54 : decode cX12_faultOf 54 = .ok (.imul, 1) := by decide +kernel
theorem dX12_faultOf_55 : decode cX12_faultOf 55 = .ok (.aload_n 0, 1) := by decide +kernel
theorem dX12_faultOf_56 : decode cX12_faultOf 56 = .ok (.invokevirtual 182, 3) := by decide +kernel
theorem dX12_faultOf_59 : decode cX12_faultOf 59 = .ok (.iadd, 1) := by decide +kernel
theorem dX12_faultOf_60 : decode cX12_faultOf 60 = .ok (.bipush 48, 2) := by decide +kernel
theorem dX12_faultOf_62 : decode cX12_faultOf 62 = .ok (.isub, 1) := by decide +kernel
theorem dX12_faultOf_63 : decode cX12_faultOf 63 = .ok (.istore 4, 2) := by decide +kernel
theorem dX12_faultOf_65 : decode cX12_faultOf 65 = .ok (.aload_n 0, 1) := by decide +kernel
theorem dX12_faultOf_66 : decode cX12_faultOf 66 = .ok (.dup, 1) := by decide +kernel
theorem dX12_faultOf_67 : decode cX12_faultOf 67 = .ok (.getfield 179, 3) := by decide +kernel
theorem dX12_faultOf_70 : decode cX12_faultOf 70 = .ok (.iconst 1, 1) := by decide +kernel
theorem dX12_faultOf_71 : decode cX12_faultOf 71 = .ok (.iadd, 1) := by decide +kernel
theorem dX12_faultOf_72 : decode cX12_faultOf 72 = .ok (.putfield 179, 3) := by decide +kernel
theorem dX12_faultOf_75 : decode cX12_faultOf 75 = .ok (.goto (-49), 3) := by decide +kernel
theorem dX12_faultOf_78 : decode cX12_faultOf 78 = .ok (.aload_n 0, 1) := by decide +kernel
theorem dX12_faultOf_79 : decode cX12_faultOf 79 = .ok (.getfield 179, 3) := by decide +kernel
theorem dX12_faultOf_82 : decode cX12_faultOf 82 = .ok (.iload_n 3, 1) := by decide +kernel
theorem dX12_faultOf_83 : decode cX12_faultOf 83 = .ok (.if_icmp .ne 8, 3) := by decide +kernel
theorem dX12_faultOf_86 : decode cX12_faultOf 86 = .ok (.aload_n 0, 1) := by decide +kernel
theorem dX12_faultOf_87 : decode cX12_faultOf 87 = .ok (.getfield 179, 3) := by decide +kernel
theorem dX12_faultOf_90 : decode cX12_faultOf 90 = .ok (.ireturn, 1) := by decide +kernel
theorem dX12_faultOf_91 : decode cX12_faultOf 91 = .ok (.iload_n 1, 1) := by decide +kernel
theorem dX12_faultOf_92 : decode cX12_faultOf 92 = .ok (.iconst (-1), 1) := by decide +kernel
theorem dX12_faultOf_93 : decode cX12_faultOf 93 = .ok (.if_icmp .ne 16, 3) := by decide +kernel
theorem dX12_faultOf_96 : decode cX12_faultOf 96 = .ok (.aload_n 0, 1) := by decide +kernel
theorem dX12_faultOf_97 : decode cX12_faultOf 97 = .ok (.iload 4, 2) := by decide +kernel
theorem dX12_faultOf_99 : decode cX12_faultOf 99 = .ok (.invokevirtual 185, 3) := by decide +kernel
theorem dX12_faultOf_102 : decode cX12_faultOf 102 = .ok (.ifCond .ne 7, 3) := by decide +kernel
theorem dX12_faultOf_105 : decode cX12_faultOf 105 = .ok (.iload_n 3, 1) := by decide +kernel
theorem dX12_faultOf_106 : decode cX12_faultOf 106 = .ok (.goto 4, 3) := by decide +kernel
theorem dX12_faultOf_109 : decode cX12_faultOf 109 = .ok (.iload_n 1, 1) := by decide +kernel
theorem dX12_faultOf_110 : decode cX12_faultOf 110 = .ok (.istore_n 1, 1) := by decide +kernel
theorem dX12_faultOf_111 : decode cX12_faultOf 111 = .ok (.aload_n 0, 1) := by decide +kernel
theorem dX12_faultOf_112 : decode cX12_faultOf 112 = .ok (.getfield 25, 3) := by decide +kernel
theorem dX12_faultOf_115 : decode cX12_faultOf 115 = .ok (.aload_n 0, 1) := by decide +kernel
theorem dX12_faultOf_116 : decode cX12_faultOf 116 = .ok (.getfield 76, 3) := by decide +kernel
theorem dX12_faultOf_119 : decode cX12_faultOf 119 = .ok (.iload 4, 2) := by decide +kernel
theorem dX12_faultOf_121 : decode cX12_faultOf 121 = .ok (.iastore, 1) := by decide +kernel
theorem dX12_faultOf_122 : decode cX12_faultOf 122 = .ok (.aload_n 0, 1) := by decide +kernel
theorem dX12_faultOf_123 : decode cX12_faultOf 123 = .ok (.dup, 1) := by decide +kernel
theorem dX12_faultOf_124 : decode cX12_faultOf 124 = .ok (.getfield 76, 3) := by decide +kernel
theorem dX12_faultOf_127 : decode cX12_faultOf 127 = .ok (.iconst 1, 1) := by decide +kernel
theorem dX12_faultOf_128 : decode cX12_faultOf 128 = .ok (.iadd, 1) := by decide +kernel
theorem dX12_faultOf_129 : decode cX12_faultOf 129 = .ok (.putfield 76, 3) := by decide +kernel
theorem dX12_faultOf_132 : decode cX12_faultOf 132 = .ok (.aload_n 0, 1) := by decide +kernel
theorem dX12_faultOf_133 : decode cX12_faultOf 133 = .ok (.invokevirtual 182, 3) := by decide +kernel
theorem dX12_faultOf_136 : decode cX12_faultOf 136 = .ok (.bipush 44, 2) := by decide +kernel
theorem dX12_faultOf_138 : decode cX12_faultOf 138 = .ok (.if_icmp .ne 15, 3) := by decide +kernel
theorem dX12_faultOf_141 : decode cX12_faultOf 141 = .ok (.aload_n 0, 1) := by decide +kernel
theorem dX12_faultOf_142 : decode cX12_faultOf 142 = .ok (.getfield 76, 3) := by decide +kernel
theorem dX12_faultOf_145 : decode cX12_faultOf 145 = .ok (.iconst 4, 1) := by decide +kernel
theorem dX12_faultOf_146 : decode cX12_faultOf 146 = .ok (.if_icmp .ge 7, 3) := by decide +kernel
theorem dX12_faultOf_149 : decode cX12_faultOf 149 = .ok (.iconst 1, 1) := by decide +kernel
theorem dX12_faultOf_150 : decode cX12_faultOf 150 = .ok (.goto 4, 3) := by decide +kernel
theorem dX12_faultOf_153 : decode cX12_faultOf 153 = .ok (.iconst 0, 1) := by decide +kernel
theorem dX12_faultOf_154 : decode cX12_faultOf 154 = .ok (.istore_n 2, 1) := by decide +kernel
theorem dX12_faultOf_155 : decode cX12_faultOf 155 = .ok (.aload_n 0, 1) := by decide +kernel
theorem dX12_faultOf_156 : decode cX12_faultOf 156 = .ok (.dup, 1) := by decide +kernel
theorem dX12_faultOf_157 : decode cX12_faultOf 157 = .ok (.getfield 179, 3) := by decide +kernel
theorem dX12_faultOf_160 : decode cX12_faultOf 160 = .ok (.iload_n 2, 1) := by decide +kernel
theorem dX12_faultOf_161 : decode cX12_faultOf 161 = .ok (.ifCond .eq 7, 3) := by decide +kernel
theorem dX12_faultOf_164 : decode cX12_faultOf 164 = .ok (.iconst 1, 1) := by decide +kernel
theorem dX12_faultOf_165 : decode cX12_faultOf 165 = .ok (.goto 4, 3) := by decide +kernel
theorem dX12_faultOf_168 : decode cX12_faultOf 168 = .ok (.iconst 0, 1) := by decide +kernel
theorem dX12_faultOf_169 : decode cX12_faultOf 169 = .ok (.iadd, 1) := by decide +kernel
theorem dX12_faultOf_170 : decode cX12_faultOf 170 = .ok (.putfield 179, 3) := by decide +kernel
theorem dX12_faultOf_173 : decode cX12_faultOf 173 = .ok (.goto (-159), 3) := by decide +kernel
theorem dX12_faultOf_176 : decode cX12_faultOf 176 = .ok (.aload_n 0, 1) := by decide +kernel
theorem dX12_faultOf_177 : decode cX12_faultOf 177 = .ok (.getfield 179, 3) := by decide +kernel
theorem dX12_faultOf_180 : decode cX12_faultOf 180 = .ok (.aload_n 0, 1) := by decide +kernel
theorem dX12_faultOf_181 : decode cX12_faultOf 181 = .ok (.getfield 176, 3) := by decide +kernel
theorem dX12_faultOf_184 : decode cX12_faultOf 184 = .ok (.if_icmp .ge 10, 3) := by decide +kernel
theorem dX12_faultOf_187 : decode cX12_faultOf 187 = .ok (.aload_n 0, 1) := by decide +kernel
theorem dX12_faultOf_188 : decode cX12_faultOf 188 = .ok (.getfield 179, 3) := by decide +kernel
theorem dX12_faultOf_191 : decode cX12_faultOf 191 = .ok (.goto 4, 3) := by decide +kernel
theorem dX12_faultOf_194 : decode cX12_faultOf 194 = .ok (.iload_n 1, 1) := by decide +kernel
theorem dX12_faultOf_195 : decode cX12_faultOf 195 = .ok (.ireturn, 1) := by decide +kernel
set_option maxRecDepth 20000 in
theorem ggX12_fault_X12_faultOf : GoodIn wsX12_fault wsX12_faultOf := goodIn_r _ [6, 7, 8, 9, 10, 11, 12, 13, 5, 14, 15, 16, 17, 18, 19, 20, 21, 22, 23, 24, 25, 26, 27, 28, 29, 30, 31, 32, 33, 34, 35] (by decide +kernel) (by decide +kernel)
set_option maxRecDepth 20000 in
theorem gX12_fault_X12_faultOf : GoodIn wsX12_fault (wsV RX12 69 RX12 yX12_faultOf wsX12_faultOf) := goodIn_app (goodIn_of _ (by decide +kernel)) ggX12_fault_X12_faultOf
theorem dX12_fault_0 : decode cX12_fault 0 = .ok (.aload_n 0, 1) := by decide +kernel
theorem dX12_fault_1 : decode cX12_fault 1 = .ok (.iconst 0, 1) := by decide +kernel
theorem dX12_fault_2 : decode cX12_fault 2 = .ok (.putfield 31, 3) := by decide +kernel
theorem dX12_fault_5 : decode cX12_fault 5 = .ok (.aload_n 0, 1) := by decide +kernel
theorem dX12_fault_6 : decode cX12_fault 6 = .ok (.invokevirtual 69, 3) := by decide +kernel
theorem dX12_fault_9 : decode cX12_fault 9 = .ok (.ireturn, 1) := by decide +kernel
theorem dX12_undo_0 : decode cX12_undo 0 = .ok (.aload_n 0, 1) := by decide +kernel
theorem dX12_undo_1 : decode cX12_undo 1 = .ok (.aload_n 0, 1) := by decide +kernel
theorem dX12_undo_2 : decode cX12_undo 2 = .ok (.getfield 35, 3) := by decide +kernel
theorem dX12_undo_5 : decode cX12_undo 5 = .ok (.ifCond .ne 7, 3) := by decide +kernel
theorem dX12_undo_8 : decode cX12_undo 8 = .ok (.iconst 1, 1) := by decide +kernel
theorem dX12_undo_9 : decode cX12_undo 9 = .ok (.goto 4, 3) := by decide +kernel
theorem dX12_undo_12 : decode cX12_undo 12 = .ok (.iconst 0, 1) := by decide +kernel
theorem dX12_undo_13 : decode cX12_undo 13 = .ok (.putfield 31, 3) := by decide +kernel
theorem dX12_undo_16 : decode cX12_undo 16 = .ok (.aload_n 0, 1) := by decide +kernel
theorem dX12_undo_17 : decode cX12_undo 17 = .ok (.getfield 31, 3) := by decide +kernel
theorem dX12_undo_20 : decode cX12_undo 20 = .ok (.ifCond .eq 5, 3) := by decide +kernel
theorem dX12_undo_23 : decode cX12_undo 23 = .ok (.iconst 0, 1) := by decide +kernel
theorem dX12_undo_24 : decode cX12_undo 24 = .ok (.ireturn, 1) := by decide +kernel
theorem dX12_undo_25 : decode cX12_undo 25 = .ok (.aload_n 0, 1) := by decide +kernel
theorem dX12_undo_26 : decode cX12_undo 26 = .ok (.dup, 1) := by decide +kernel
theorem dX12_undo_27 : decode cX12_undo 27 = .ok (.getfield 35, 3) := by decide +kernel
theorem dX12_undo_30 : decode cX12_undo 30 = .ok (.iconst 1, 1) := by decide +kernel
theorem dX12_undo_31 : decode cX12_undo 31 = .ok (.isub, 1) := by decide +kernel
theorem dX12_undo_32 : decode cX12_undo 32 = .ok (.putfield 35, 3) := by decide +kernel
theorem dX12_undo_35 : decode cX12_undo 35 = .ok (.iconst 0, 1) := by decide +kernel
theorem dX12_undo_36 : decode cX12_undo 36 = .ok (.istore_n 1, 1) := by decide +kernel
theorem dX12_undo_37 : decode cX12_undo 37 = .ok (.iload_n 1, 1) := by decide +kernel
theorem dX12_undo_38 : decode cX12_undo 38 = .ok (.sipush 714, 3) := by decide +kernel
theorem dX12_undo_41 : decode cX12_undo 41 = .ok (.if_icmp .ge 30, 3) := by decide +kernel
theorem dX12_undo_44 : decode cX12_undo 44 = .ok (.aload_n 0, 1) := by decide +kernel
theorem dX12_undo_45 : decode cX12_undo 45 = .ok (.getfield 7, 3) := by decide +kernel
theorem dX12_undo_48 : decode cX12_undo 48 = .ok (.iload_n 1, 1) := by decide +kernel
theorem dX12_undo_49 : decode cX12_undo 49 = .ok (.aload_n 0, 1) := by decide +kernel
theorem dX12_undo_50 : decode cX12_undo 50 = .ok (.getfield 13, 3) := by decide +kernel
theorem dX12_undo_53 : decode cX12_undo 53 = .ok (.sipush 714, 3) := by decide +kernel
theorem dX12_undo_56 : decode cX12_undo 56 = .ok (.aload_n 0, 1) := by decide +kernel
theorem dX12_undo_57 : decode cX12_undo 57 = .ok (.getfield 35, 3) := by decide +kernel
theorem dX12_undo_60 : decode cX12_undo 60 = .ok (.imul, 1) := by decide +kernel
theorem dX12_undo_61 : decode cX12_undo 61 = .ok (.iload_n 1, 1) := by decide +kernel
theorem dX12_undo_62 : decode cX12_undo 62 = .ok (.iadd, 1) := by decide +kernel
theorem dX12_undo_63 : decode cX12_undo 63 = .ok (.iaload, 1) := by decide +kernel
theorem dX12_undo_64 : decode cX12_undo 64 = .ok (.iastore, 1) := by decide +kernel
theorem dX12_undo_65 : decode cX12_undo 65 = .ok (.iinc 1 1, 3) := by decide +kernel
theorem dX12_undo_68 : decode cX12_undo 68 = .ok (.goto (-31), 3) := by decide +kernel
theorem dX12_undo_71 : decode cX12_undo 71 = .ok (.aload_n 0, 1) := by decide +kernel
theorem dX12_undo_72 : decode cX12_undo 72 = .ok (.getfield 35, 3) := by decide +kernel
theorem dX12_undo_75 : decode cX12_undo 75 = .ok (.ireturn, 1) := by decide +kernel
theorem dX12_mix_0 : decode cX12_mix 0 = .ok (.aload_n 0, 1) := by decide +kernel
theorem dX12_mix_1 : decode cX12_mix 1 = .ok (.ldc2_w 188, 3) := by decide +kernel
theorem dX12_mix_4 : decode cX12_mix 4 = .ok (.aload_n 0, 1) := by decide +kernel
theorem dX12_mix_5 : decode cX12_mix 5 = .ok (.getfield 190, 3) := by decide +kernel
theorem dX12_mix_8 : decode cX12_mix 8 = .ok (.lmul, 1) := by decide +kernel
theorem dX12_mix_9 : decode cX12_mix 9 = .ok (.lload_n 1, 1) := by decide +kernel
theorem dX12_mix_10 : decode cX12_mix 10 = .ok (.ladd, 1) := by decide +kernel
theorem dX12_mix_11 : decode cX12_mix 11 = .ok (.putfield 190, 3) := by decide +kernel
theorem dX12_mix_14 : decode cX12_mix 14 = .ok (.return_, 1) := by decide +kernel
set_option maxRecDepth 20000 in
theorem ggX12_mixEntrant_X12_ofEntrant : GoodIn wsX12_mixEntrant wsX12_ofEntrant := goodIn_r _ [6, 1, 7, 8, 9, 5, 10, 11, 12, 13, 14, 15, 16, 17, 18, 19, 20, 21, 22, 23, 24, 25, 26, 27, 28, 29, 30, 31, 32, 33, 34, 35, 36, 37, 38, 39, 40, 41, 42, 43, 44, 45, 46, 47, 48, 70, 71, 72, 73, 74, 75, 76, 77, 78, 79, 80, 81] (by decide +kernel) (by decide +kernel)
set_option maxRecDepth 20000 in
theorem gX12_mixEntrant_X12_ofEntrant : GoodIn wsX12_mixEntrant (wsV RX12 169 RX12 yX12_ofEntrant wsX12_ofEntrant) := goodIn_app (goodIn_of _ (by decide +kernel)) ggX12_mixEntrant_X12_ofEntrant
set_option maxRecDepth 20000 in
theorem ggX12_mixEntrant_X12_mix : GoodIn wsX12_mixEntrant wsX12_mix := goodIn_r _ [52, 53, 54, 70, 71, 72, 73, 74, 75, 76, 77, 78, 79, 80, 81] (by decide +kernel) (by decide +kernel)
set_option maxRecDepth 20000 in
theorem gX12_mixEntrant_X12_mix : GoodIn wsX12_mixEntrant (wsV RX12 194 RX12 yX12_mix wsX12_mix) := goodIn_app (goodIn_of _ (by decide +kernel)) ggX12_mixEntrant_X12_mix
set_option maxRecDepth 20000 in
theorem ggX12_mixEntrant_X12_flawOf : GoodIn wsX12_mixEntrant wsX12_flawOf := goodIn_r _ [58, 1, 59, 60, 5, 61, 62, 63, 64, 65, 15, 16, 17, 66, 67, 68, 69, 70, 71, 72, 73, 74, 75, 76, 77, 78, 79, 80, 81] (by decide +kernel) (by decide +kernel)
set_option maxRecDepth 20000 in
theorem gX12_mixEntrant_X12_flawOf : GoodIn wsX12_mixEntrant (wsV RX12 86 RX12 yX12_flawOf wsX12_flawOf) := goodIn_app (goodIn_of _ (by decide +kernel)) ggX12_mixEntrant_X12_flawOf
set_option maxRecDepth 20000 in
theorem ggX12_mixEntrant_X12_workAt : GoodIn wsX12_mixEntrant wsX12_workAt := goodIn_r _ [65, 1, 59, 60, 5, 61, 15, 16, 17, 70, 71, 72, 73, 74, 75, 76, 77, 78, 79, 80, 81] (by decide +kernel) (by decide +kernel)
set_option maxRecDepth 20000 in
theorem gX12_mixEntrant_X12_workAt : GoodIn wsX12_mixEntrant (wsV RX12 79 RX12 yX12_workAt wsX12_workAt) := goodIn_app (goodIn_of _ (by decide +kernel)) ggX12_mixEntrant_X12_workAt
set_option maxRecDepth 20000 in
theorem ggX12_mixEntrant_X12_seat : GoodIn wsX12_mixEntrant wsX12_seat := goodIn_r _ [28] (by decide +kernel) (by decide +kernel)
set_option maxRecDepth 20000 in
theorem gX12_mixEntrant_X12_seat : GoodIn wsX12_mixEntrant (va_wsS RX12 45 yX12_seat wsX12_seat) := goodIn_app (goodIn_of _ (by decide +kernel)) ggX12_mixEntrant_X12_seat
theorem dX12_mixEntrant_0 : decode cX12_mixEntrant 0 = .ok (.iconst 0, 1) := by decide +kernel
theorem dX12_mixEntrant_1 : decode cX12_mixEntrant 1 = .ok (.istore_n 2, 1) := by decide +kernel
theorem dX12_mixEntrant_2 : decode cX12_mixEntrant 2 = .ok (.iload_n 2, 1) := by decide +kernel
theorem dX12_mixEntrant_3 : decode cX12_mixEntrant 3 = .ok (.bipush 8, 2) := by decide +kernel
theorem dX12_mixEntrant_5 : decode cX12_mixEntrant 5 = .ok (.if_icmp .ge 20, 3) := by decide +kernel
theorem dX12_mixEntrant_8 : decode cX12_mixEntrant 8 = .ok (.aload_n 0, 1) := by decide +kernel
theorem dX12_mixEntrant_9 : decode cX12_mixEntrant 9 = .ok (.aload_n 0, 1) := by decide +kernel
theorem dX12_mixEntrant_10 : decode cX12_mixEntrant 10 = .ok (.iload_n 1, 1) := by decide +kernel
theorem dX12_mixEntrant_11 : decode cX12_mixEntrant 11 = .ok (.iload_n 2, 1) := by decide +kernel
theorem dX12_mixEntrant_12 : decode cX12_mixEntrant 12 = .ok (.invokevirtual 169, 3) := by decide +kernel
theorem dX12_mixEntrant_15 : decode cX12_mixEntrant 15 = .ok (.i2l, 1) := by decide +kernel
theorem dX12_mixEntrant_16 : decode cX12_mixEntrant 16 = .ok (.invokevirtual 194, 3) := by decide +kernel
theorem dX12_mixEntrant_19 : decode cX12_mixEntrant 19 = .ok (.iinc 2 1, 3) := by decide +kernel
theorem dX12_mixEntrant_22 : decode cX12_mixEntrant 22 = .ok (.goto (-20), 3) := by decide +kernel
theorem dX12_mixEntrant_25 : decode cX12_mixEntrant 25 = .ok (.iconst 0, 1) := by decide +kernel
theorem dX12_mixEntrant_26 : decode cX12_mixEntrant 26 = .ok (.istore_n 2, 1) := by decide +kernel
theorem dX12_mixEntrant_27 : decode cX12_mixEntrant 27 = .ok (.iload_n 2, 1) := by decide +kernel
theorem dX12_mixEntrant_28 : decode cX12_mixEntrant 28 = .ok (.iconst 4, 1) := by decide +kernel
theorem dX12_mixEntrant_29 : decode cX12_mixEntrant 29 = .ok (.if_icmp .ge 64, 3) := by decide +kernel
theorem dX12_mixEntrant_32 : decode cX12_mixEntrant 32 = .ok (.aload_n 0, 1) := by decide +kernel
theorem dX12_mixEntrant_33 : decode cX12_mixEntrant 33 = .ok (.aload_n 0, 1) := by decide +kernel
theorem dX12_mixEntrant_34 : decode cX12_mixEntrant 34 = .ok (.iload_n 1, 1) := by decide +kernel
theorem dX12_mixEntrant_35 : decode cX12_mixEntrant 35 = .ok (.iload_n 2, 1) := by decide +kernel
theorem dX12_mixEntrant_36 : decode cX12_mixEntrant 36 = .ok (.invokevirtual 86, 3) := by decide +kernel
theorem dX12_mixEntrant_39 : decode cX12_mixEntrant 39 = .ok (.i2l, 1) := by decide +kernel
theorem dX12_mixEntrant_40 : decode cX12_mixEntrant 40 = .ok (.invokevirtual 194, 3) := by decide +kernel
theorem dX12_mixEntrant_43 : decode cX12_mixEntrant 43 = .ok (.aload_n 0, 1) := by decide +kernel
theorem dX12_mixEntrant_44 : decode cX12_mixEntrant 44 = .ok (.aload_n 0, 1) := by decide +kernel
theorem dX12_mixEntrant_45 : decode cX12_mixEntrant 45 = .ok (.getfield 7, 3) := by decide +kernel
theorem dX12_mixEntrant_48 : decode cX12_mixEntrant 48 = .ok (.sipush 666, 3) := by decide +kernel
theorem dX12_mixEntrant_51 : decode cX12_mixEntrant 51 = .ok (.iconst 4, 1) := by decide +kernel
theorem dX12_mixEntrant_52 : decode cX12_mixEntrant 52 = .ok (.iload_n 1, 1) := by decide +kernel
theorem dX12_mixEntrant_53 : decode cX12_mixEntrant 53 = .ok (.imul, 1) := by decide +kernel
theorem dX12_mixEntrant_54 : decode cX12_mixEntrant 54 = .ok (.iadd, 1) := by decide +kernel
theorem dX12_mixEntrant_55 : decode cX12_mixEntrant 55 = .ok (.iload_n 2, 1) := by decide +kernel
theorem dX12_mixEntrant_56 : decode cX12_mixEntrant 56 = .ok (.iadd, 1) := by decide +kernel
theorem dX12_mixEntrant_57 : decode cX12_mixEntrant 57 = .ok (.iaload, 1) := by decide +kernel
theorem dX12_mixEntrant_58 : decode cX12_mixEntrant 58 = .ok (.i2l, 1) := by decide +kernel
theorem dX12_mixEntrant_59 : decode cX12_mixEntrant 59 = .ok (.invokevirtual 194, 3) := by decide +kernel
theorem dX12_mixEntrant_62 : decode cX12_mixEntrant 62 = .ok (.iconst 0, 1) := by decide +kernel
theorem dX12_mixEntrant_63 : decode cX12_mixEntrant 63 = .ok (.istore_n 3, 1) := by decide +kernel
theorem dX12_mixEntrant_64 : decode cX12_mixEntrant 64 = .ok (.iload_n 3, 1) := by decide +kernel
theorem dX12_mixEntrant_65 : decode cX12_mixEntrant 65 = .ok (.iconst 4, 1) := by decide +kernel
theorem dX12_mixEntrant_66 : decode cX12_mixEntrant 66 = .ok (.if_icmp .ge 21, 3) := by decide +kernel
theorem dX12_mixEntrant_69 : decode cX12_mixEntrant 69 = .ok (.aload_n 0, 1) := by decide +kernel
theorem dX12_mixEntrant_70 : decode cX12_mixEntrant 70 = .ok (.aload_n 0, 1) := by decide +kernel
theorem dX12_mixEntrant_71 : decode cX12_mixEntrant 71 = .ok (.iload_n 1, 1) := by decide +kernel
theorem dX12_mixEntrant_72 : decode cX12_mixEntrant 72 = .ok (.iload_n 2, 1) := by decide +kernel
theorem dX12_mixEntrant_73 : decode cX12_mixEntrant 73 = .ok (.iload_n 3, 1) := by decide +kernel
theorem dX12_mixEntrant_74 : decode cX12_mixEntrant 74 = .ok (.invokevirtual 79, 3) := by decide +kernel
theorem dX12_mixEntrant_77 : decode cX12_mixEntrant 77 = .ok (.i2l, 1) := by decide +kernel
theorem dX12_mixEntrant_78 : decode cX12_mixEntrant 78 = .ok (.invokevirtual 194, 3) := by decide +kernel
theorem dX12_mixEntrant_81 : decode cX12_mixEntrant 81 = .ok (.iinc 3 1, 3) := by decide +kernel
theorem dX12_mixEntrant_84 : decode cX12_mixEntrant 84 = .ok (.goto (-20), 3) := by decide +kernel
theorem dX12_mixEntrant_87 : decode cX12_mixEntrant 87 = .ok (.iinc 2 1, 3) := by decide +kernel
theorem dX12_mixEntrant_90 : decode cX12_mixEntrant 90 = .ok (.goto (-63), 3) := by decide +kernel
theorem dX12_mixEntrant_93 : decode cX12_mixEntrant 93 = .ok (.iconst 0, 1) := by decide +kernel
theorem dX12_mixEntrant_94 : decode cX12_mixEntrant 94 = .ok (.istore_n 2, 1) := by decide +kernel
theorem dX12_mixEntrant_95 : decode cX12_mixEntrant 95 = .ok (.iload_n 2, 1) := by decide +kernel
theorem dX12_mixEntrant_96 : decode cX12_mixEntrant 96 = .ok (.aload_n 0, 1) := by decide +kernel
theorem dX12_mixEntrant_97 : decode cX12_mixEntrant 97 = .ok (.getfield 7, 3) := by decide +kernel
theorem dX12_mixEntrant_100 : decode cX12_mixEntrant 100 = .ok (.iconst 0, 1) := by decide +kernel
theorem dX12_mixEntrant_101 : decode cX12_mixEntrant 101 = .ok (.iaload, 1) := by decide +kernel
theorem dX12_mixEntrant_102 : decode cX12_mixEntrant 102 = .ok (.if_icmp .ge 66, 3) := by decide +kernel
theorem dX12_mixEntrant_105 : decode cX12_mixEntrant 105 = .ok (.aload_n 0, 1) := by decide +kernel
theorem dX12_mixEntrant_106 : decode cX12_mixEntrant 106 = .ok (.aload_n 0, 1) := by decide +kernel
theorem dX12_mixEntrant_107 : decode cX12_mixEntrant 107 = .ok (.getfield 7, 3) := by decide +kernel
theorem dX12_mixEntrant_110 : decode cX12_mixEntrant 110 = .ok (.sipush 378, 3) := by decide +kernel
theorem dX12_mixEntrant_113 : decode cX12_mixEntrant 113 = .ok (.iload_n 2, 1) := by decide +kernel
theorem dX12_mixEntrant_114 : decode cX12_mixEntrant 114 = .ok (.iload_n 1, 1) := by decide +kernel
theorem dX12_mixEntrant_115 : decode cX12_mixEntrant 115 = .ok (.invokestatic 45, 3) := by decide +kernel
theorem dX12_mixEntrant_118 : decode cX12_mixEntrant 118 = .ok (.iadd, 1) := by decide +kernel
theorem dX12_mixEntrant_119 : decode cX12_mixEntrant 119 = .ok (.iaload, 1) := by decide +kernel
theorem dX12_mixEntrant_120 : decode cX12_mixEntrant 120 = .ok (.i2l, 1) := by decide +kernel
theorem dX12_mixEntrant_121 : decode cX12_mixEntrant 121 = .ok (.invokevirtual 194, 3) := by decide +kernel
theorem dX12_mixEntrant_124 : decode cX12_mixEntrant 124 = .ok (.aload_n 0, 1) := by decide +kernel
theorem dX12_mixEntrant_125 : decode cX12_mixEntrant 125 = .ok (.aload_n 0, 1) := by decide +kernel
theorem dX12_mixEntrant_126 : decode cX12_mixEntrant 126 = .ok (.getfield 7, 3) := by decide +kernel
theorem dX12_mixEntrant_129 : decode cX12_mixEntrant 129 = .ok (.sipush 486, 3) := by decide +kernel
theorem dX12_mixEntrant_132 : decode cX12_mixEntrant 132 = .ok (.iload_n 2, 1) := by decide +kernel
theorem dX12_mixEntrant_133 : decode cX12_mixEntrant 133 = .ok (.iload_n 1, 1) := by decide +kernel
theorem dX12_mixEntrant_134 : decode cX12_mixEntrant 134 = .ok (.invokestatic 45, 3) := by decide +kernel
theorem dX12_mixEntrant_137 : decode cX12_mixEntrant 137 = .ok (.iadd, 1) := by decide +kernel
theorem dX12_mixEntrant_138 : decode cX12_mixEntrant 138 = .ok (.iaload, 1) := by decide +kernel
theorem dX12_mixEntrant_139 : decode cX12_mixEntrant 139 = .ok (.i2l, 1) := by decide +kernel
theorem dX12_mixEntrant_140 : decode cX12_mixEntrant 140 = .ok (.invokevirtual 194, 3) := by decide +kernel
theorem dX12_mixEntrant_143 : decode cX12_mixEntrant 143 = .ok (.aload_n 0, 1) := by decide +kernel
theorem dX12_mixEntrant_144 : decode cX12_mixEntrant 144 = .ok (.aload_n 0, 1) := by decide +kernel
theorem dX12_mixEntrant_145 : decode cX12_mixEntrant 145 = .ok (.getfield 7, 3) := by decide +kernel
theorem dX12_mixEntrant_148 : decode cX12_mixEntrant 148 = .ok (.sipush 570, 3) := by decide +kernel
theorem dX12_mixEntrant_151 : decode cX12_mixEntrant 151 = .ok (.iload_n 2, 1) := by decide +kernel
theorem dX12_mixEntrant_152 : decode cX12_mixEntrant 152 = .ok (.iload_n 1, 1) := by decide +kernel
theorem dX12_mixEntrant_153 : decode cX12_mixEntrant 153 = .ok (.invokestatic 45, 3) := by decide +kernel
theorem dX12_mixEntrant_156 : decode cX12_mixEntrant 156 = .ok (.iadd, 1) := by decide +kernel
theorem dX12_mixEntrant_157 : decode cX12_mixEntrant 157 = .ok (.iaload, 1) := by decide +kernel
theorem dX12_mixEntrant_158 : decode cX12_mixEntrant 158 = .ok (.i2l, 1) := by decide +kernel
theorem dX12_mixEntrant_159 : decode cX12_mixEntrant 159 = .ok (.invokevirtual 194, 3) := by decide +kernel
theorem dX12_mixEntrant_162 : decode cX12_mixEntrant 162 = .ok (.iinc 2 1, 3) := by decide +kernel
theorem dX12_mixEntrant_165 : decode cX12_mixEntrant 165 = .ok (.goto (-70), 3) := by decide +kernel
theorem dX12_mixEntrant_168 : decode cX12_mixEntrant 168 = .ok (.return_, 1) := by decide +kernel
set_option maxRecDepth 20000 in
theorem ggX12_checksum_X12_infoOf : GoodIn wsX12_checksum wsX12_infoOf := goodIn_r _ [11, 4, 12, 13, 14, 10, 15, 16, 17, 18, 19, 94, 95, 96, 97, 98, 99, 100, 101, 102, 103, 104, 105] (by decide +kernel) (by decide +kernel)
set_option maxRecDepth 20000 in
theorem gX12_checksum_X12_infoOf : GoodIn wsX12_checksum (wsV RX12 166 RX12 yX12_infoOf wsX12_infoOf) := goodIn_app (goodIn_of _ (by decide +kernel)) ggX12_checksum_X12_infoOf
set_option maxRecDepth 20000 in
theorem ggX12_checksum_X12_mix : GoodIn wsX12_checksum wsX12_mix := goodIn_r _ [23, 24, 3, 94, 95, 96, 97, 98, 99, 100, 101, 102, 103, 104, 105] (by decide +kernel) (by decide +kernel)
set_option maxRecDepth 20000 in
theorem gX12_checksum_X12_mix : GoodIn wsX12_checksum (wsV RX12 194 RX12 yX12_mix wsX12_mix) := goodIn_app (goodIn_of _ (by decide +kernel)) ggX12_checksum_X12_mix
set_option maxRecDepth 20000 in
theorem ggX12_checksum_X12_mixEntrant : GoodIn wsX12_checksum wsX12_mixEntrant := goodIn_r _ [28, 4, 29, 30, 31, 10, 32, 33, 34, 35, 36, 37, 38, 39, 40, 41, 42, 43, 44, 45, 46, 47, 48, 49, 50, 51, 52, 53, 54, 55, 56, 57, 58, 59, 60, 61, 62, 63, 64, 65, 66, 67, 68, 69, 70, 71, 72, 73, 74, 20, 21, 22, 23, 24, 3, 75, 76, 77, 78, 79, 80, 81, 82, 83, 84, 85, 86, 87, 88, 89, 94, 95, 96, 97, 98, 99, 100, 101, 102, 103, 104, 105] (by decide +kernel) (by decide +kernel)
set_option maxRecDepth 20000 in
theorem gX12_checksum_X12_mixEntrant : GoodIn wsX12_checksum (wsV RX12 200 RX12 yX12_mixEntrant wsX12_mixEntrant) := goodIn_app (goodIn_of _ (by decide +kernel)) ggX12_checksum_X12_mixEntrant
set_option maxRecDepth 20000 in
theorem ggX12_checksum_X12_strangest : GoodIn wsX12_checksum wsX12_strangest := goodIn_r _ [93, 4, 63, 64, 65, 10, 66, 48, 49, 50, 51, 52, 53, 54, 55, 56, 57, 58, 94, 95, 96, 97, 98, 99, 100, 101, 102, 103, 104, 105] (by decide +kernel) (by decide +kernel)
set_option maxRecDepth 20000 in
theorem gX12_checksum_X12_strangest : GoodIn wsX12_checksum (wsV RX12 173 RX12 yX12_strangest wsX12_strangest) := goodIn_app (goodIn_of _ (by decide +kernel)) ggX12_checksum_X12_strangest
theorem dX12_checksum_0 : decode cX12_checksum 0 = .ok (.aload_n 0, 1) := by decide +kernel
theorem dX12_checksum_1 : decode cX12_checksum 1 = .ok (.iconst 0, 1) := by decide +kernel
theorem dX12_checksum_2 : decode cX12_checksum 2 = .ok (.putfield 31, 3) := by decide +kernel
theorem dX12_checksum_5 : decode cX12_checksum 5 = .ok (.aload_n 0, 1) := by decide +kernel
theorem dX12_checksum_6 : decode cX12_checksum 6 = .ok (.ldc2_w 198, 3) := by decide +kernel
theorem dX12_checksum_9 : decode cX12_checksum 9 = .ok (.putfield 190, 3) := by decide +kernel
theorem dX12_checksum_12 : decode cX12_checksum 12 = .ok (.iconst 0, 1) := by decide +kernel
theorem dX12_checksum_13 : decode cX12_checksum 13 = .ok (.istore_n 1, 1) := by decide +kernel
theorem dX12_checksum_14 : decode cX12_checksum 14 = .ok (.iload_n 1, 1) := by decide +kernel
theorem dX12_checksum_15 : decode cX12_checksum 15 = .ok (.bipush 13, 2) := by decide +kernel
theorem dX12_checksum_17 : decode cX12_checksum 17 = .ok (.if_icmp .ge 19, 3) := by decide +kernel
theorem dX12_checksum_20 : decode cX12_checksum 20 = .ok (.aload_n 0, 1) := by decide +kernel
theorem dX12_checksum_21 : decode cX12_checksum 21 = .ok (.aload_n 0, 1) := by decide +kernel
theorem dX12_checksum_22 : decode cX12_checksum 22 = .ok (.iload_n 1, 1) := by decide +kernel
theorem dX12_checksum_23 : decode cX12_checksum 23 = .ok (.invokevirtual 166, 3) := by decide +kernel
theorem dX12_checksum_26 : decode cX12_checksum 26 = .ok (.i2l, 1) := by decide +kernel
theorem dX12_checksum_27 : decode cX12_checksum 27 = .ok (.invokevirtual 194, 3) := by decide +kernel
theorem dX12_checksum_30 : decode cX12_checksum 30 = .ok (.iinc 1 1, 3) := by decide +kernel
theorem dX12_checksum_33 : decode cX12_checksum 33 = .ok (.goto (-19), 3) := by decide +kernel
theorem dX12_checksum_36 : decode cX12_checksum 36 = .ok (.iconst 0, 1) := by decide +kernel
theorem dX12_checksum_37 : decode cX12_checksum 37 = .ok (.istore_n 1, 1) := by decide +kernel
theorem dX12_checksum_38 : decode cX12_checksum 38 = .ok (.iload_n 1, 1) := by decide +kernel
theorem dX12_checksum_39 : decode cX12_checksum 39 = .ok (.iconst 3, 1) := by decide +kernel
theorem dX12_checksum_40 : decode cX12_checksum 40 = .ok (.aload_n 0, 1) := by decide +kernel
theorem dX12_checksum_41 : decode cX12_checksum 41 = .ok (.getfield 7, 3) := by decide +kernel
theorem dX12_checksum_44 : decode cX12_checksum 44 = .ok (.iconst 5, 1) := by decide +kernel
theorem dX12_checksum_45 : decode cX12_checksum 45 = .ok (.iaload, 1) := by decide +kernel
theorem dX12_checksum_46 : decode cX12_checksum 46 = .ok (.imul, 1) := by decide +kernel
theorem dX12_checksum_47 : decode cX12_checksum 47 = .ok (.if_icmp .ge 23, 3) := by decide +kernel
theorem dX12_checksum_50 : decode cX12_checksum 50 = .ok (.aload_n 0, 1) := by decide +kernel
theorem dX12_checksum_51 : decode cX12_checksum 51 = .ok (.aload_n 0, 1) := by decide +kernel
theorem dX12_checksum_52 : decode cX12_checksum 52 = .ok (.getfield 7, 3) := by decide +kernel
theorem dX12_checksum_55 : decode cX12_checksum 55 = .ok (.bipush 12, 2) := by decide +kernel
theorem dX12_checksum_57 : decode cX12_checksum 57 = .ok (.iload_n 1, 1) := by decide +kernel
theorem dX12_checksum_58 : decode cX12_checksum 58 = .ok (.iadd, 1) := by decide +kernel
theorem dX12_checksum_59 : decode cX12_checksum 59 = .ok (.iaload, 1) := by decide +kernel
theorem dX12_checksum_60 : decode cX12_checksum 60 = .ok (.i2l, 1) := by decide +kernel
theorem dX12_checksum_61 : decode cX12_checksum 61 = .ok (.invokevirtual 194, 3) := by decide +kernel
theorem dX12_checksum_64 : decode cX12_checksum 64 = .ok (.iinc 1 1, 3) := by decide +kernel
theorem dX12_checksum_67 : decode cX12_checksum 67 = .ok (.goto (-29), 3) := by decide +kernel
theorem dX12_checksum_70 : decode cX12_checksum 70 = .ok (.iconst 0, 1) := by decide +kernel
theorem dX12_checksum_71 : decode cX12_checksum 71 = .ok (.istore_n 1, 1) := by decide +kernel
theorem dX12_checksum_72 : decode cX12_checksum 72 = .ok (.iload_n 1, 1) := by decide +kernel
theorem dX12_checksum_73 : decode cX12_checksum 73 = .ok (.bipush 24, 2) := by decide +kernel
theorem dX12_checksum_75 : decode cX12_checksum 75 = .ok (.if_icmp .ge 23, 3) := by decide +kernel
theorem dX12_checksum_78 : decode cX12_checksum 78 = .ok (.aload_n 0, 1) := by decide +kernel
theorem dX12_checksum_79 : decode cX12_checksum 79 = .ok (.aload_n 0, 1) := by decide +kernel
theorem dX12_checksum_80 : decode cX12_checksum 80 = .ok (.getfield 7, 3) := by decide +kernel
theorem dX12_checksum_83 : decode cX12_checksum 83 = .ok (.bipush 102, 2) := by decide +kernel
theorem dX12_checksum_85 : decode cX12_checksum 85 = .ok (.iload_n 1, 1) := by decide +kernel
theorem dX12_checksum_86 : decode cX12_checksum 86 = .ok (.iadd, 1) := by decide +kernel
theorem dX12_checksum_87 : decode cX12_checksum 87 = .ok (.iaload, 1) := by decide +kernel
theorem dX12_checksum_88 : decode cX12_checksum 88 = .ok (.i2l, 1) := by decide +kernel
theorem dX12_checksum_89 : decode cX12_checksum 89 = .ok (.invokevirtual 194, 3) := by decide +kernel
theorem dX12_checksum_92 : decode cX12_checksum 92 = .ok (.iinc 1 1, 3) := by decide +kernel
theorem dX12_checksum_95 : decode cX12_checksum 95 = .ok (.goto (-23), 3) := by decide +kernel
theorem dX12_checksum_98 : decode cX12_checksum 98 = .ok (.iconst 0, 1) := by decide +kernel
theorem dX12_checksum_99 : decode cX12_checksum 99 = .ok (.istore_n 1, 1) := by decide +kernel
theorem dX12_checksum_100 : decode cX12_checksum 100 = .ok (.iload_n 1, 1) := by decide +kernel
theorem dX12_checksum_101 : decode cX12_checksum 101 = .ok (.aload_n 0, 1) := by decide +kernel
theorem dX12_checksum_102 : decode cX12_checksum 102 = .ok (.getfield 7, 3) := by decide +kernel
theorem dX12_checksum_105 : decode cX12_checksum 105 = .ok (.bipush 6, 2) := by decide +kernel
theorem dX12_checksum_107 : decode cX12_checksum 107 = .ok (.iaload, 1) := by decide +kernel
theorem dX12_checksum_108 : decode cX12_checksum 108 = .ok (.if_icmp .ge 14, 3) := by decide +kernel
theorem dX12_checksum_111 : decode cX12_checksum 111 = .ok (.aload_n 0, 1) := by decide +kernel
theorem dX12_checksum_112 : decode cX12_checksum 112 = .ok (.iload_n 1, 1) := by decide +kernel
theorem dX12_checksum_113 : decode cX12_checksum 113 = .ok (.invokevirtual 200, 3) := by decide +kernel
theorem dX12_checksum_116 : decode cX12_checksum 116 = .ok (.iinc 1 1, 3) := by decide +kernel
theorem dX12_checksum_119 : decode cX12_checksum 119 = .ok (.goto (-19), 3) := by decide +kernel
theorem dX12_checksum_122 : decode cX12_checksum 122 = .ok (.iconst 0, 1) := by decide +kernel
theorem dX12_checksum_123 : decode cX12_checksum 123 = .ok (.istore_n 1, 1) := by decide +kernel
theorem dX12_checksum_124 : decode cX12_checksum 124 = .ok (.iload_n 1, 1) := by decide +kernel
theorem dX12_checksum_125 : decode cX12_checksum 125 = .ok (.aload_n 0, 1) := by decide +kernel
theorem dX12_checksum_126 : decode cX12_checksum 126 = .ok (.getfield 7, 3) := by decide +kernel
theorem dX12_checksum_129 : decode cX12_checksum 129 = .ok (.bipush 7, 2) := by decide +kernel
theorem dX12_checksum_131 : decode cX12_checksum 131 = .ok (.iaload, 1) := by decide +kernel
theorem dX12_checksum_132 : decode cX12_checksum 132 = .ok (.if_icmp .ge 24, 3) := by decide +kernel
theorem dX12_checksum_135 : decode cX12_checksum 135 = .ok (.aload_n 0, 1) := by decide +kernel
theorem dX12_checksum_136 : decode cX12_checksum 136 = .ok (.aload_n 0, 1) := by decide +kernel
theorem dX12_checksum_137 : decode cX12_checksum 137 = .ok (.getfield 7, 3) := by decide +kernel
theorem dX12_checksum_140 : decode cX12_checksum 140 = .ok (.sipush 462, 3) := by decide +kernel
theorem dX12_checksum_143 : decode cX12_checksum 143 = .ok (.iload_n 1, 1) := by decide +kernel
theorem dX12_checksum_144 : decode cX12_checksum 144 = .ok (.iadd, 1) := by decide +kernel
theorem dX12_checksum_145 : decode cX12_checksum 145 = .ok (.iaload, 1) := by decide +kernel
theorem dX12_checksum_146 : decode cX12_checksum 146 = .ok (.i2l, 1) := by decide +kernel
theorem dX12_checksum_147 : decode cX12_checksum 147 = .ok (.invokevirtual 194, 3) := by decide +kernel
theorem dX12_checksum_150 : decode cX12_checksum 150 = .ok (.iinc 1 1, 3) := by decide +kernel
theorem dX12_checksum_153 : decode cX12_checksum 153 = .ok (.goto (-29), 3) := by decide +kernel
theorem dX12_checksum_156 : decode cX12_checksum 156 = .ok (.aload_n 0, 1) := by decide +kernel
theorem dX12_checksum_157 : decode cX12_checksum 157 = .ok (.aload_n 0, 1) := by decide +kernel
theorem dX12_checksum_158 : decode cX12_checksum 158 = .ok (.invokevirtual 173, 3) := by decide +kernel
theorem dX12_checksum_161 : decode cX12_checksum 161 = .ok (.i2l, 1) := by decide +kernel
theorem dX12_checksum_162 : decode cX12_checksum 162 = .ok (.invokevirtual 194, 3) := by decide +kernel
theorem dX12_checksum_165 : decode cX12_checksum 165 = .ok (.aload_n 0, 1) := by decide +kernel
theorem dX12_checksum_166 : decode cX12_checksum 166 = .ok (.aload_n 0, 1) := by decide +kernel
theorem dX12_checksum_167 : decode cX12_checksum 167 = .ok (.getfield 176, 3) := by decide +kernel
theorem dX12_checksum_170 : decode cX12_checksum 170 = .ok (.i2l, 1) := by decide +kernel
theorem dX12_checksum_171 : decode cX12_checksum 171 = .ok (.invokevirtual 194, 3) := by decide +kernel
theorem dX12_checksum_174 : decode cX12_checksum 174 = .ok (.aload_n 0, 1) := by decide +kernel
theorem dX12_checksum_175 : decode cX12_checksum 175 = .ok (.aload_n 0, 1) := by decide +kernel
theorem dX12_checksum_176 : decode cX12_checksum 176 = .ok (.getfield 35, 3) := by decide +kernel
theorem dX12_checksum_179 : decode cX12_checksum 179 = .ok (.i2l, 1) := by decide +kernel
theorem dX12_checksum_180 : decode cX12_checksum 180 = .ok (.invokevirtual 194, 3) := by decide +kernel
theorem dX12_checksum_183 : decode cX12_checksum 183 = .ok (.aload_n 0, 1) := by decide +kernel
theorem dX12_checksum_184 : decode cX12_checksum 184 = .ok (.getfield 190, 3) := by decide +kernel
theorem dX12_checksum_187 : decode cX12_checksum 187 = .ok (.lreturn, 1) := by decide +kernel
theorem dJ9_abs_0f7a4_0 : decode cJ9_abs_0f7a4 0 = .ok (.iload_n 0, 1) := by decide +kernel
theorem dJ9_abs_0f7a4_1 : decode cJ9_abs_0f7a4 1 = .ok (.ifCond .ge 8, 3) := by decide +kernel
theorem dJ9_abs_0f7a4_4 : decode cJ9_abs_0f7a4 4 = .ok (.iload_n 0, 1) := by decide +kernel
theorem dJ9_abs_0f7a4_5 : decode cJ9_abs_0f7a4 5 = .ok (.ineg, 1) := by decide +kernel
theorem dJ9_abs_0f7a4_6 : decode cJ9_abs_0f7a4 6 = .ok (.goto 4, 3) := by decide +kernel
theorem dJ9_abs_0f7a4_9 : decode cJ9_abs_0f7a4 9 = .ok (.iload_n 0, 1) := by decide +kernel
theorem dJ9_abs_0f7a4_10 : decode cJ9_abs_0f7a4 10 = .ok (.ireturn, 1) := by decide +kernel
theorem dJ9_max_7cf53_0 : decode cJ9_max_7cf53 0 = .ok (.iload_n 0, 1) := by decide +kernel
theorem dJ9_max_7cf53_1 : decode cJ9_max_7cf53 1 = .ok (.iload_n 1, 1) := by decide +kernel
theorem dJ9_max_7cf53_2 : decode cJ9_max_7cf53 2 = .ok (.if_icmp .lt 7, 3) := by decide +kernel
theorem dJ9_max_7cf53_5 : decode cJ9_max_7cf53 5 = .ok (.iload_n 0, 1) := by decide +kernel
theorem dJ9_max_7cf53_6 : decode cJ9_max_7cf53 6 = .ok (.goto 4, 3) := by decide +kernel
theorem dJ9_max_7cf53_9 : decode cJ9_max_7cf53 9 = .ok (.iload_n 1, 1) := by decide +kernel
theorem dJ9_max_7cf53_10 : decode cJ9_max_7cf53 10 = .ok (.ireturn, 1) := by decide +kernel
theorem dJ9_min_7cf53_0 : decode cJ9_min_7cf53 0 = .ok (.iload_n 0, 1) := by decide +kernel
theorem dJ9_min_7cf53_1 : decode cJ9_min_7cf53 1 = .ok (.iload_n 1, 1) := by decide +kernel
theorem dJ9_min_7cf53_2 : decode cJ9_min_7cf53 2 = .ok (.if_icmp .gt 7, 3) := by decide +kernel
theorem dJ9_min_7cf53_5 : decode cJ9_min_7cf53 5 = .ok (.iload_n 0, 1) := by decide +kernel
theorem dJ9_min_7cf53_6 : decode cJ9_min_7cf53 6 = .ok (.goto 4, 3) := by decide +kernel
theorem dJ9_min_7cf53_9 : decode cJ9_min_7cf53 9 = .ok (.iload_n 1, 1) := by decide +kernel
theorem dJ9_min_7cf53_10 : decode cJ9_min_7cf53 10 = .ok (.ireturn, 1) := by decide +kernel
theorem dJ7_fill_53178_0 : decode cJ7_fill_53178 0 = .ok (.iconst 0, 1) := by decide +kernel
theorem dJ7_fill_53178_1 : decode cJ7_fill_53178 1 = .ok (.istore_n 2, 1) := by decide +kernel
theorem dJ7_fill_53178_2 : decode cJ7_fill_53178 2 = .ok (.aload_n 0, 1) := by decide +kernel
theorem dJ7_fill_53178_3 : decode cJ7_fill_53178 3 = .ok (.arraylength, 1) := by decide +kernel
theorem dJ7_fill_53178_4 : decode cJ7_fill_53178 4 = .ok (.istore_n 3, 1) := by decide +kernel
theorem dJ7_fill_53178_5 : decode cJ7_fill_53178 5 = .ok (.iload_n 2, 1) := by decide +kernel
theorem dJ7_fill_53178_6 : decode cJ7_fill_53178 6 = .ok (.iload_n 3, 1) := by decide +kernel
theorem dJ7_fill_53178_7 : decode cJ7_fill_53178 7 = .ok (.if_icmp .ge 13, 3) := by decide +kernel
theorem dJ7_fill_53178_10 : decode cJ7_fill_53178 10 = .ok (.aload_n 0, 1) := by decide +kernel
theorem dJ7_fill_53178_11 : decode cJ7_fill_53178 11 = .ok (.iload_n 2, 1) := by decide +kernel
theorem dJ7_fill_53178_12 : decode cJ7_fill_53178 12 = .ok (.iload_n 1, 1) := by decide +kernel
theorem dJ7_fill_53178_13 : decode cJ7_fill_53178 13 = .ok (.iastore, 1) := by decide +kernel
theorem dJ7_fill_53178_14 : decode cJ7_fill_53178 14 = .ok (.iinc 2 1, 3) := by decide +kernel
theorem dJ7_fill_53178_17 : decode cJ7_fill_53178 17 = .ok (.goto (-12), 3) := by decide +kernel
theorem dJ7_fill_53178_20 : decode cJ7_fill_53178 20 = .ok (.return_, 1) := by decide +kernel
set_option maxRecDepth 20000 in
theorem ggL_addWork_X11_addWork : GoodIn wsL_addWork wsX11_addWork := goodIn_ca (goodIn_ca (goodIn_r _ [7, 8, 9, 10, 11, 6, 12, 13, 14, 15, 16, 17, 18, 19, 20, 21, 22, 23, 24, 25, 26, 27, 28, 29, 30, 31, 32, 33, 34, 35, 36, 37, 38, 39, 40, 41, 42, 43, 44, 45, 46, 47, 48, 49, 50, 51, 52, 53, 54, 55, 56, 57, 58, 59, 60, 61, 62, 63, 64, 65, 66, 67, 68, 69, 70, 71, 72, 73, 74, 75, 76, 77, 78, 79, 80, 81, 82, 83, 84, 85, 86, 87, 88, 89, 90, 91, 92, 93, 94, 95, 96, 97, 98, 99, 100, 101, 102, 103, 104, 105, 106, 107, 108, 109, 110, 111, 112, 113, 114, 115, 116, 117, 118, 119, 120, 121, 122, 123, 124, 125, 126, 127, 128, 129, 130, 131, 132, 133, 134, 135, 136, 137, 138, 139, 140, 141, 142, 143, 144, 145, 146, 147, 148, 149, 150, 151, 152, 153, 154, 155, 156, 157, 158, 159, 160] (by decide +kernel) (by decide +kernel)) (goodIn_sub (fun _ h => List.mem_cons_of_mem _ (List.mem_append_left _ (List.mem_append_right _ h))) (by decide +kernel))) (goodIn_sub (fun _ h => List.mem_cons_of_mem _ (List.mem_append_right _ h)) (by decide +kernel))
set_option maxRecDepth 20000 in
theorem gL_addWork_X11_addWork : GoodIn wsL_addWork (wsV RL 7 RX11 yX11_addWork wsX11_addWork) := goodIn_app (goodIn_of _ (by decide +kernel)) ggL_addWork_X11_addWork
theorem dL_addWork_0 : decode cL_addWork 0 = .ok (.aload 4, 2) := by decide +kernel
theorem dL_addWork_2 : decode cL_addWork 2 = .ok (.iconst 0, 1) := by decide +kernel
theorem dL_addWork_3 : decode cL_addWork 3 = .ok (.aload_n 0, 1) := by decide +kernel
theorem dL_addWork_4 : decode cL_addWork 4 = .ok (.iload_n 1, 1) := by decide +kernel
theorem dL_addWork_5 : decode cL_addWork 5 = .ok (.iload_n 2, 1) := by decide +kernel
theorem dL_addWork_6 : decode cL_addWork 6 = .ok (.iload_n 3, 1) := by decide +kernel
theorem dL_addWork_7 : decode cL_addWork 7 = .ok (.invokevirtual 7, 3) := by decide +kernel
theorem dL_addWork_10 : decode cL_addWork 10 = .ok (.i2l, 1) := by decide +kernel
theorem dL_addWork_11 : decode cL_addWork 11 = .ok (.lastore, 1) := by decide +kernel
theorem dL_addWork_12 : decode cL_addWork 12 = .ok (.goto 11, 3) := by decide +kernel
theorem dL_addWork_15 : decode cL_addWork 15 = .ok (.astore 5, 2) := by decide +kernel
theorem dL_addWork_17 : decode cL_addWork 17 = .ok (.iconst 1, 1) := by decide +kernel
theorem dL_addWork_18 : decode cL_addWork 18 = .ok (.ireturn, 1) := by decide +kernel
theorem dL_addWork_19 : decode cL_addWork 19 = .ok (.astore 5, 2) := by decide +kernel
theorem dL_addWork_21 : decode cL_addWork 21 = .ok (.iconst 2, 1) := by decide +kernel
theorem dL_addWork_22 : decode cL_addWork 22 = .ok (.ireturn, 1) := by decide +kernel
theorem dL_addWork_23 : decode cL_addWork 23 = .ok (.iconst 0, 1) := by decide +kernel
theorem dL_addWork_24 : decode cL_addWork 24 = .ok (.ireturn, 1) := by decide +kernel
set_option maxRecDepth 20000 in
theorem ggL_work_X11_work : GoodIn wsL_work wsX11_work := goodIn_ca (goodIn_ca (goodIn_r _ [7, 8, 9, 10, 11, 12, 13, 14, 15, 16, 6, 17, 18, 19, 20, 21, 22, 23, 24, 25, 26, 27, 28, 29, 30, 31, 32, 33, 34, 35, 36, 37, 38, 39, 40, 41, 42, 43, 44, 45, 46, 47, 48, 49, 50, 51, 52, 53, 54, 55, 56, 57, 58, 59, 60, 61, 62, 63, 64, 65, 66, 67, 68] (by decide +kernel) (by decide +kernel)) (goodIn_sub (fun _ h => List.mem_cons_of_mem _ (List.mem_append_left _ (List.mem_append_right _ h))) (by decide +kernel))) (goodIn_sub (fun _ h => List.mem_cons_of_mem _ (List.mem_append_right _ h)) (by decide +kernel))
set_option maxRecDepth 20000 in
theorem gL_work_X11_work : GoodIn wsL_work (wsV RL 17 RX11 yX11_work wsX11_work) := goodIn_app (goodIn_of _ (by decide +kernel)) ggL_work_X11_work
theorem dL_work_0 : decode cL_work 0 = .ok (.aload_n 3, 1) := by decide +kernel
theorem dL_work_1 : decode cL_work 1 = .ok (.iconst 0, 1) := by decide +kernel
theorem dL_work_2 : decode cL_work 2 = .ok (.aload_n 0, 1) := by decide +kernel
theorem dL_work_3 : decode cL_work 3 = .ok (.iload_n 1, 1) := by decide +kernel
theorem dL_work_4 : decode cL_work 4 = .ok (.iload_n 2, 1) := by decide +kernel
theorem dL_work_5 : decode cL_work 5 = .ok (.invokevirtual 17, 3) := by decide +kernel
theorem dL_work_8 : decode cL_work 8 = .ok (.i2l, 1) := by decide +kernel
theorem dL_work_9 : decode cL_work 9 = .ok (.lastore, 1) := by decide +kernel
theorem dL_work_10 : decode cL_work 10 = .ok (.goto 11, 3) := by decide +kernel
theorem dL_work_13 : decode cL_work 13 = .ok (.astore 4, 2) := by decide +kernel
theorem dL_work_15 : decode cL_work 15 = .ok (.iconst 1, 1) := by decide +kernel
theorem dL_work_16 : decode cL_work 16 = .ok (.ireturn, 1) := by decide +kernel
theorem dL_work_17 : decode cL_work 17 = .ok (.astore 4, 2) := by decide +kernel
theorem dL_work_19 : decode cL_work 19 = .ok (.iconst 2, 1) := by decide +kernel
theorem dL_work_20 : decode cL_work 20 = .ok (.ireturn, 1) := by decide +kernel
theorem dL_work_21 : decode cL_work 21 = .ok (.iconst 0, 1) := by decide +kernel
theorem dL_work_22 : decode cL_work 22 = .ok (.ireturn, 1) := by decide +kernel
set_option maxRecDepth 20000 in
theorem ggL_addEntrant_X11_addEntrant : GoodIn wsL_addEntrant wsX11_addEntrant := goodIn_ca (goodIn_r _ [6, 7, 8, 9, 10, 5, 11, 12, 13, 14, 15, 16, 17, 18, 19, 20, 21, 22, 23, 24, 25, 26, 27, 28, 29, 30, 31, 32, 33, 34, 35, 36, 37, 38, 39, 40, 41, 42, 43, 44, 45, 46, 47, 48, 49, 50, 51, 52, 53, 54, 55, 56, 57, 58, 59, 60, 61, 62, 63, 64, 65, 66, 67, 68, 69, 70, 71, 72, 73, 74, 75, 76, 77, 78, 79, 80, 81, 82, 83, 84, 85, 86, 87, 88, 89, 90, 91, 92, 93, 94, 95, 96, 97, 98, 99, 100, 101, 102, 103, 104, 105, 106, 107, 108, 109, 110, 111, 112, 113, 114, 115, 116, 117, 118, 119, 120, 121, 122, 123, 124, 125, 126, 127, 128, 129, 130, 131, 132, 133, 134, 135, 136, 137, 138, 139, 140, 141, 142, 143, 144, 145, 146, 147, 148, 149, 150, 151] (by decide +kernel) (by decide +kernel)) (goodIn_sub (fun _ h => List.mem_cons_of_mem _ (List.mem_append_right _ h)) (by decide +kernel))
set_option maxRecDepth 20000 in
theorem gL_addEntrant_X11_addEntrant : GoodIn wsL_addEntrant (wsV RL 23 RX11 yX11_addEntrant wsX11_addEntrant) := goodIn_app (goodIn_of _ (by decide +kernel)) ggL_addEntrant_X11_addEntrant
theorem dL_addEntrant_0 : decode cL_addEntrant 0 = .ok (.aload_n 1, 1) := by decide +kernel
theorem dL_addEntrant_1 : decode cL_addEntrant 1 = .ok (.iconst 0, 1) := by decide +kernel
theorem dL_addEntrant_2 : decode cL_addEntrant 2 = .ok (.aload_n 0, 1) := by decide +kernel
theorem dL_addEntrant_3 : decode cL_addEntrant 3 = .ok (.invokevirtual 23, 3) := by decide +kernel
theorem dL_addEntrant_6 : decode cL_addEntrant 6 = .ok (.i2l, 1) := by decide +kernel
theorem dL_addEntrant_7 : decode cL_addEntrant 7 = .ok (.lastore, 1) := by decide +kernel
theorem dL_addEntrant_8 : decode cL_addEntrant 8 = .ok (.goto 6, 3) := by decide +kernel
theorem dL_addEntrant_11 : decode cL_addEntrant 11 = .ok (.astore_n 2, 1) := by decide +kernel
theorem dL_addEntrant_12 : decode cL_addEntrant 12 = .ok (.iconst 1, 1) := by decide +kernel
theorem dL_addEntrant_13 : decode cL_addEntrant 13 = .ok (.ireturn, 1) := by decide +kernel
theorem dL_addEntrant_14 : decode cL_addEntrant 14 = .ok (.iconst 0, 1) := by decide +kernel
theorem dL_addEntrant_15 : decode cL_addEntrant 15 = .ok (.ireturn, 1) := by decide +kernel
set_option maxRecDepth 20000 in
theorem ggL_bar_X11_bar : GoodIn wsL_bar wsX11_bar := goodIn_ca (goodIn_r _ [6, 7, 8, 9, 10, 11, 5, 12, 13, 14, 15, 16, 17, 18, 19, 20, 21, 22, 23, 24, 25, 26, 27, 28, 29, 30, 31, 32, 33, 34, 35, 36, 37, 38, 39, 40, 41, 42, 43, 44, 45, 46, 47, 48, 49, 50, 51, 52, 53, 54, 55, 56, 57, 58, 59, 60, 61, 62, 63, 64, 65, 66, 67, 68, 69, 70, 71, 72, 73, 74, 75, 76, 77, 78, 79, 80, 81, 82, 83, 84, 85, 86, 87, 88, 89, 90, 91, 92, 93, 94, 95, 96, 97, 98, 99, 100, 101, 102, 103, 104, 105, 106, 107, 108, 109, 110, 111, 112, 113, 114, 115, 116, 117, 118, 119, 120, 121, 122, 123, 124, 125, 126, 127, 128, 129, 130, 131, 132, 133, 134, 135, 136, 137, 138, 139, 140, 141, 142, 143, 144, 145, 146, 147, 148, 149, 150, 151, 152, 153, 154, 155, 156, 157, 158, 159, 160, 161, 162, 163, 164, 165, 166, 167, 168, 169, 170, 171] (by decide +kernel) (by decide +kernel)) (goodIn_sub (fun _ h => List.mem_cons_of_mem _ (List.mem_append_right _ h)) (by decide +kernel))
set_option maxRecDepth 20000 in
theorem gL_bar_X11_bar : GoodIn wsL_bar (wsV RL 27 RX11 yX11_bar wsX11_bar) := goodIn_app (goodIn_of _ (by decide +kernel)) ggL_bar_X11_bar
theorem dL_bar_0 : decode cL_bar 0 = .ok (.aload 4, 2) := by decide +kernel
theorem dL_bar_2 : decode cL_bar 2 = .ok (.iconst 0, 1) := by decide +kernel
theorem dL_bar_3 : decode cL_bar 3 = .ok (.aload_n 0, 1) := by decide +kernel
theorem dL_bar_4 : decode cL_bar 4 = .ok (.iload_n 1, 1) := by decide +kernel
theorem dL_bar_5 : decode cL_bar 5 = .ok (.iload_n 2, 1) := by decide +kernel
theorem dL_bar_6 : decode cL_bar 6 = .ok (.iload_n 3, 1) := by decide +kernel
theorem dL_bar_7 : decode cL_bar 7 = .ok (.invokevirtual 27, 3) := by decide +kernel
theorem dL_bar_10 : decode cL_bar 10 = .ok (.ifCond .eq 7, 3) := by decide +kernel
theorem dL_bar_13 : decode cL_bar 13 = .ok (.lconst 1, 1) := by decide +kernel
theorem dL_bar_14 : decode cL_bar 14 = .ok (.goto 4, 3) := by decide +kernel
theorem dL_bar_17 : decode cL_bar 17 = .ok (.lconst 0, 1) := by decide +kernel
theorem dL_bar_18 : decode cL_bar 18 = .ok (.lastore, 1) := by decide +kernel
theorem dL_bar_19 : decode cL_bar 19 = .ok (.goto 7, 3) := by decide +kernel
theorem dL_bar_22 : decode cL_bar 22 = .ok (.astore 5, 2) := by decide +kernel
theorem dL_bar_24 : decode cL_bar 24 = .ok (.iconst 1, 1) := by decide +kernel
theorem dL_bar_25 : decode cL_bar 25 = .ok (.ireturn, 1) := by decide +kernel
theorem dL_bar_26 : decode cL_bar 26 = .ok (.iconst 0, 1) := by decide +kernel
theorem dL_bar_27 : decode cL_bar 27 = .ok (.ireturn, 1) := by decide +kernel
set_option maxRecDepth 20000 in
theorem ggL_set_X11_set : GoodIn wsL_set wsX11_set := goodIn_ca (goodIn_ca (goodIn_r _ [7, 8, 9, 10, 11, 12, 13, 6, 14, 15, 16, 17, 18, 19, 20, 21, 22, 23, 24, 25, 26, 27, 28, 29, 30, 31, 32, 33, 34, 35, 36, 37, 38, 39, 40, 41, 42, 43, 44, 45, 46, 47, 48, 49, 50, 51, 52, 53, 54, 55, 56, 57, 58, 59, 60, 61, 62, 63, 64, 65, 66, 67, 68, 69, 70, 71, 72, 73, 74, 75, 76, 77, 78, 79, 80, 81, 82, 83, 84, 85, 86, 87, 88, 89, 90, 91, 92, 93, 94, 95, 96, 97, 98, 99, 100, 101, 102, 103, 104, 105, 106, 107, 108, 109, 110, 111, 112, 113, 114, 115, 116, 117, 118, 119, 120, 121, 122, 123, 124, 125, 126, 127, 128, 129, 130, 131, 132, 133, 134, 135, 136, 137, 138, 139, 140, 141, 142, 143, 144, 145, 146, 147, 148, 149, 150, 151, 152, 153, 154, 155, 156, 157, 158, 159, 160, 161, 162, 163, 164, 165, 166, 167, 168, 169, 170, 171, 172, 173, 174, 175, 176, 177, 178, 179, 180, 181, 182] (by decide +kernel) (by decide +kernel)) (goodIn_sub (fun _ h => List.mem_cons_of_mem _ (List.mem_append_left _ (List.mem_append_right _ h))) (by decide +kernel))) (goodIn_sub (fun _ h => List.mem_cons_of_mem _ (List.mem_append_right _ h)) (by decide +kernel))
set_option maxRecDepth 20000 in
theorem gL_set_X11_set : GoodIn wsL_set (wsV RL 31 RX11 yX11_set wsX11_set) := goodIn_app (goodIn_of _ (by decide +kernel)) ggL_set_X11_set
theorem dL_set_0 : decode cL_set 0 = .ok (.aload_n 3, 1) := by decide +kernel
theorem dL_set_1 : decode cL_set 1 = .ok (.iconst 0, 1) := by decide +kernel
theorem dL_set_2 : decode cL_set 2 = .ok (.aload_n 0, 1) := by decide +kernel
theorem dL_set_3 : decode cL_set 3 = .ok (.iload_n 1, 1) := by decide +kernel
theorem dL_set_4 : decode cL_set 4 = .ok (.iload_n 2, 1) := by decide +kernel
theorem dL_set_5 : decode cL_set 5 = .ok (.invokevirtual 31, 3) := by decide +kernel
theorem dL_set_8 : decode cL_set 8 = .ok (.i2l, 1) := by decide +kernel
theorem dL_set_9 : decode cL_set 9 = .ok (.lastore, 1) := by decide +kernel
theorem dL_set_10 : decode cL_set 10 = .ok (.goto 11, 3) := by decide +kernel
theorem dL_set_13 : decode cL_set 13 = .ok (.astore 4, 2) := by decide +kernel
theorem dL_set_15 : decode cL_set 15 = .ok (.iconst 1, 1) := by decide +kernel
theorem dL_set_16 : decode cL_set 16 = .ok (.ireturn, 1) := by decide +kernel
theorem dL_set_17 : decode cL_set 17 = .ok (.astore 4, 2) := by decide +kernel
theorem dL_set_19 : decode cL_set 19 = .ok (.iconst 2, 1) := by decide +kernel
theorem dL_set_20 : decode cL_set 20 = .ok (.ireturn, 1) := by decide +kernel
theorem dL_set_21 : decode cL_set 21 = .ok (.iconst 0, 1) := by decide +kernel
theorem dL_set_22 : decode cL_set 22 = .ok (.ireturn, 1) := by decide +kernel
set_option maxRecDepth 20000 in
theorem ggL_setRule_X11_setRule : GoodIn wsL_setRule wsX11_setRule := goodIn_ca (goodIn_ca (goodIn_ca (goodIn_r _ [8, 9, 10, 11, 12, 13, 14, 7, 15, 16, 17, 18, 19, 20, 21, 22, 23, 24, 25, 26, 27, 28, 29, 30, 31, 32, 33, 34, 35, 36, 37, 38, 39, 40, 41, 42, 43, 44, 45, 46, 47, 48, 49, 50, 51, 52, 53, 54, 55, 56, 57, 58, 59, 60, 61, 62, 63, 64, 65, 66, 67, 68, 69, 70, 71, 72, 73, 74, 75, 76, 77, 78, 79, 80, 81, 82, 83, 84, 85, 86, 87, 88, 89, 90, 91, 92, 93, 94, 95, 96, 97, 98, 99, 100, 101, 102, 103, 104, 105, 106, 107, 108, 109, 110, 111, 112, 113, 114, 115, 116, 117, 118, 119, 120, 121, 122, 123, 124, 125, 126, 127, 128, 129, 130, 131, 132, 133, 134, 135, 136, 137, 138, 139, 140, 141, 142, 143, 144, 145, 146, 147, 148, 149, 150, 151, 152, 153, 154, 155, 156, 157, 158, 159, 160, 161, 162, 163, 164, 165, 166, 167] (by decide +kernel) (by decide +kernel)) (goodIn_sub (fun _ h => List.mem_cons_of_mem _ (List.mem_append_left _ (List.mem_append_left _ (List.mem_append_right _ h)))) (by decide +kernel))) (goodIn_sub (fun _ h => List.mem_cons_of_mem _ (List.mem_append_left _ (List.mem_append_right _ h))) (by decide +kernel))) (goodIn_sub (fun _ h => List.mem_cons_of_mem _ (List.mem_append_right _ h)) (by decide +kernel))
set_option maxRecDepth 20000 in
theorem gL_setRule_X11_setRule : GoodIn wsL_setRule (wsV RL 34 RX11 yX11_setRule wsX11_setRule) := goodIn_app (goodIn_of _ (by decide +kernel)) ggL_setRule_X11_setRule
theorem dL_setRule_0 : decode cL_setRule 0 = .ok (.aload 4, 2) := by decide +kernel
theorem dL_setRule_2 : decode cL_setRule 2 = .ok (.iconst 0, 1) := by decide +kernel
theorem dL_setRule_3 : decode cL_setRule 3 = .ok (.aload_n 0, 1) := by decide +kernel
theorem dL_setRule_4 : decode cL_setRule 4 = .ok (.iload_n 1, 1) := by decide +kernel
theorem dL_setRule_5 : decode cL_setRule 5 = .ok (.iload_n 2, 1) := by decide +kernel
theorem dL_setRule_6 : decode cL_setRule 6 = .ok (.iload_n 3, 1) := by decide +kernel
theorem dL_setRule_7 : decode cL_setRule 7 = .ok (.invokevirtual 34, 3) := by decide +kernel
theorem dL_setRule_10 : decode cL_setRule 10 = .ok (.i2l, 1) := by decide +kernel
theorem dL_setRule_11 : decode cL_setRule 11 = .ok (.lastore, 1) := by decide +kernel
theorem dL_setRule_12 : decode cL_setRule 12 = .ok (.goto 15, 3) := by decide +kernel
theorem dL_setRule_15 : decode cL_setRule 15 = .ok (.astore 5, 2) := by decide +kernel
theorem dL_setRule_17 : decode cL_setRule 17 = .ok (.iconst 1, 1) := by decide +kernel
theorem dL_setRule_18 : decode cL_setRule 18 = .ok (.ireturn, 1) := by decide +kernel
theorem dL_setRule_19 : decode cL_setRule 19 = .ok (.astore 5, 2) := by decide +kernel
theorem dL_setRule_21 : decode cL_setRule 21 = .ok (.iconst 2, 1) := by decide +kernel
theorem dL_setRule_22 : decode cL_setRule 22 = .ok (.ireturn, 1) := by decide +kernel
theorem dL_setRule_23 : decode cL_setRule 23 = .ok (.astore 5, 2) := by decide +kernel
theorem dL_setRule_25 : decode cL_setRule 25 = .ok (.iconst 3, 1) := by decide +kernel
theorem dL_setRule_26 : decode cL_setRule 26 = .ok (.ireturn, 1) := by decide +kernel
theorem dL_setRule_27 : decode cL_setRule 27 = .ok (.iconst 0, 1) := by decide +kernel
theorem dL_setRule_28 : decode cL_setRule 28 = .ok (.ireturn, 1) := by decide +kernel
set_option maxRecDepth 20000 in
theorem ggL_rule_X11_rule : GoodIn wsL_rule wsX11_rule := goodIn_ca (goodIn_ca (goodIn_r _ [7, 8, 9, 10, 6, 11, 12, 13, 14, 15, 16, 17, 18, 19, 20, 21, 22, 23, 24, 25, 26, 27, 28, 29, 30, 31, 32, 33, 34, 35, 36, 37, 38, 39, 40, 41] (by decide +kernel) (by decide +kernel)) (goodIn_sub (fun _ h => List.mem_cons_of_mem _ (List.mem_append_left _ (List.mem_append_right _ h))) (by decide +kernel))) (goodIn_sub (fun _ h => List.mem_cons_of_mem _ (List.mem_append_right _ h)) (by decide +kernel))
set_option maxRecDepth 20000 in
theorem gL_rule_X11_rule : GoodIn wsL_rule (wsV RL 37 RX11 yX11_rule wsX11_rule) := goodIn_app (goodIn_of _ (by decide +kernel)) ggL_rule_X11_rule
theorem dL_rule_0 : decode cL_rule 0 = .ok (.aload_n 3, 1) := by decide +kernel
theorem dL_rule_1 : decode cL_rule 1 = .ok (.iconst 0, 1) := by decide +kernel
theorem dL_rule_2 : decode cL_rule 2 = .ok (.aload_n 0, 1) := by decide +kernel
theorem dL_rule_3 : decode cL_rule 3 = .ok (.iload_n 1, 1) := by decide +kernel
theorem dL_rule_4 : decode cL_rule 4 = .ok (.iload_n 2, 1) := by decide +kernel
theorem dL_rule_5 : decode cL_rule 5 = .ok (.invokevirtual 37, 3) := by decide +kernel
theorem dL_rule_8 : decode cL_rule 8 = .ok (.i2l, 1) := by decide +kernel
theorem dL_rule_9 : decode cL_rule 9 = .ok (.lastore, 1) := by decide +kernel
theorem dL_rule_10 : decode cL_rule 10 = .ok (.goto 11, 3) := by decide +kernel
theorem dL_rule_13 : decode cL_rule 13 = .ok (.astore 4, 2) := by decide +kernel
theorem dL_rule_15 : decode cL_rule 15 = .ok (.iconst 1, 1) := by decide +kernel
theorem dL_rule_16 : decode cL_rule 16 = .ok (.ireturn, 1) := by decide +kernel
theorem dL_rule_17 : decode cL_rule 17 = .ok (.astore 4, 2) := by decide +kernel
theorem dL_rule_19 : decode cL_rule 19 = .ok (.iconst 2, 1) := by decide +kernel
theorem dL_rule_20 : decode cL_rule 20 = .ok (.ireturn, 1) := by decide +kernel
theorem dL_rule_21 : decode cL_rule 21 = .ok (.iconst 0, 1) := by decide +kernel
theorem dL_rule_22 : decode cL_rule 22 = .ok (.ireturn, 1) := by decide +kernel
set_option maxRecDepth 20000 in
theorem ggL_setProgram_X11_setProgram : GoodIn wsL_setProgram wsX11_setProgram := goodIn_ca (goodIn_ca (goodIn_r _ [7, 8, 9, 10, 11, 12, 13, 6, 14, 15, 16, 17, 18, 19, 20, 21, 22, 23, 24, 25, 26, 27, 28, 29, 30, 31, 32, 33, 34, 35, 36, 37, 38, 39, 40, 41, 42, 43, 44, 45, 46, 47, 48, 49, 50, 51, 52, 53, 54, 55, 56, 57, 58, 59, 60, 61, 62, 63, 64, 65, 66, 67, 68, 69, 70, 71, 72, 73, 74, 75, 76, 77, 78, 79, 80, 81, 82, 83, 84, 85, 86, 87, 88, 89, 90, 91, 92, 93, 94, 95, 96, 97, 98, 99, 100, 101, 102, 103, 104, 105, 106, 107, 108, 109, 110, 111, 112, 113, 114, 115, 116, 117, 118, 119, 120, 121, 122, 123, 124, 125, 126, 127, 128, 129, 130, 131, 132, 133, 134, 135, 136, 137, 138, 139, 140, 141, 142, 143, 144, 145, 146, 147, 148, 149, 150, 151, 152, 153, 154, 155, 156, 157, 158, 159, 160, 161, 162, 163, 164, 165, 166, 167, 168, 169, 170, 171, 172, 173, 174, 175, 176, 177, 178, 179, 180, 181, 182, 183, 184, 185, 186, 187, 188, 189, 190, 191, 192, 193, 194, 195, 196, 197, 198, 199, 200, 201, 202, 203, 204, 205, 206, 207, 208] (by decide +kernel) (by decide +kernel)) (goodIn_sub (fun _ h => List.mem_cons_of_mem _ (List.mem_append_left _ (List.mem_append_right _ h))) (by decide +kernel))) (goodIn_sub (fun _ h => List.mem_cons_of_mem _ (List.mem_append_right _ h)) (by decide +kernel))
set_option maxRecDepth 20000 in
theorem gL_setProgram_X11_setProgram : GoodIn wsL_setProgram (wsV RL 40 RX11 yX11_setProgram wsX11_setProgram) := goodIn_app (goodIn_of _ (by decide +kernel)) ggL_setProgram_X11_setProgram
theorem dL_setProgram_0 : decode cL_setProgram 0 = .ok (.aload_n 3, 1) := by decide +kernel
theorem dL_setProgram_1 : decode cL_setProgram 1 = .ok (.iconst 0, 1) := by decide +kernel
theorem dL_setProgram_2 : decode cL_setProgram 2 = .ok (.aload_n 0, 1) := by decide +kernel
theorem dL_setProgram_3 : decode cL_setProgram 3 = .ok (.iload_n 1, 1) := by decide +kernel
theorem dL_setProgram_4 : decode cL_setProgram 4 = .ok (.iload_n 2, 1) := by decide +kernel
theorem dL_setProgram_5 : decode cL_setProgram 5 = .ok (.invokevirtual 40, 3) := by decide +kernel
theorem dL_setProgram_8 : decode cL_setProgram 8 = .ok (.i2l, 1) := by decide +kernel
theorem dL_setProgram_9 : decode cL_setProgram 9 = .ok (.lastore, 1) := by decide +kernel
theorem dL_setProgram_10 : decode cL_setProgram 10 = .ok (.goto 11, 3) := by decide +kernel
theorem dL_setProgram_13 : decode cL_setProgram 13 = .ok (.astore 4, 2) := by decide +kernel
theorem dL_setProgram_15 : decode cL_setProgram 15 = .ok (.iconst 1, 1) := by decide +kernel
theorem dL_setProgram_16 : decode cL_setProgram 16 = .ok (.ireturn, 1) := by decide +kernel
theorem dL_setProgram_17 : decode cL_setProgram 17 = .ok (.astore 4, 2) := by decide +kernel
theorem dL_setProgram_19 : decode cL_setProgram 19 = .ok (.iconst 2, 1) := by decide +kernel
theorem dL_setProgram_20 : decode cL_setProgram 20 = .ok (.ireturn, 1) := by decide +kernel
theorem dL_setProgram_21 : decode cL_setProgram 21 = .ok (.iconst 0, 1) := by decide +kernel
theorem dL_setProgram_22 : decode cL_setProgram 22 = .ok (.ireturn, 1) := by decide +kernel
set_option maxRecDepth 20000 in
theorem ggL_clearProgram_X11_clearProgram : GoodIn wsL_clearProgram wsX11_clearProgram := goodIn_ca (goodIn_r _ [6, 7, 8, 9, 10, 11, 5, 12, 13, 14, 15, 16, 17, 18, 19, 20, 21, 22, 23, 24, 25, 26, 27, 28, 29, 30, 31, 32, 33, 34, 35, 36, 37, 38, 39, 40, 41, 42, 43, 44, 45, 46, 47, 48, 49, 50, 51, 52, 53, 54, 55, 56, 57, 58, 59, 60, 61, 62, 63, 64, 65, 66, 67, 68, 69, 70, 71, 72, 73, 74, 75, 76, 77, 78, 79, 80, 81, 82, 83, 84, 85, 86, 87, 88, 89, 90, 91, 92, 93, 94, 95, 96, 97, 98, 99, 100, 101, 102, 103, 104, 105, 106, 107, 108, 109, 110, 111, 112, 113, 114, 115, 116, 117, 118, 119, 120, 121, 122, 123, 124, 125, 126, 127, 128, 129, 130, 131, 132, 133, 134, 135, 136, 137, 138, 139, 140, 141, 142, 143, 144, 145, 146, 147, 148, 149, 150, 151, 152, 153, 154, 155, 156, 157, 158, 159, 160, 161, 162, 163, 164, 165, 166, 167, 168, 169, 170, 171, 172, 173, 174, 175, 176, 177, 178, 179, 180, 181] (by decide +kernel) (by decide +kernel)) (goodIn_sub (fun _ h => List.mem_cons_of_mem _ (List.mem_append_right _ h)) (by decide +kernel))
set_option maxRecDepth 20000 in
theorem gL_clearProgram_X11_clearProgram : GoodIn wsL_clearProgram (wsV RL 43 RX11 yX11_clearProgram wsX11_clearProgram) := goodIn_app (goodIn_of _ (by decide +kernel)) ggL_clearProgram_X11_clearProgram
theorem dL_clearProgram_0 : decode cL_clearProgram 0 = .ok (.aload_n 3, 1) := by decide +kernel
theorem dL_clearProgram_1 : decode cL_clearProgram 1 = .ok (.iconst 0, 1) := by decide +kernel
theorem dL_clearProgram_2 : decode cL_clearProgram 2 = .ok (.aload_n 0, 1) := by decide +kernel
theorem dL_clearProgram_3 : decode cL_clearProgram 3 = .ok (.iload_n 1, 1) := by decide +kernel
theorem dL_clearProgram_4 : decode cL_clearProgram 4 = .ok (.iload_n 2, 1) := by decide +kernel
theorem dL_clearProgram_5 : decode cL_clearProgram 5 = .ok (.invokevirtual 43, 3) := by decide +kernel
theorem dL_clearProgram_8 : decode cL_clearProgram 8 = .ok (.i2l, 1) := by decide +kernel
theorem dL_clearProgram_9 : decode cL_clearProgram 9 = .ok (.lastore, 1) := by decide +kernel
theorem dL_clearProgram_10 : decode cL_clearProgram 10 = .ok (.goto 7, 3) := by decide +kernel
theorem dL_clearProgram_13 : decode cL_clearProgram 13 = .ok (.astore 4, 2) := by decide +kernel
theorem dL_clearProgram_15 : decode cL_clearProgram 15 = .ok (.iconst 1, 1) := by decide +kernel
theorem dL_clearProgram_16 : decode cL_clearProgram 16 = .ok (.ireturn, 1) := by decide +kernel
theorem dL_clearProgram_17 : decode cL_clearProgram 17 = .ok (.iconst 0, 1) := by decide +kernel
theorem dL_clearProgram_18 : decode cL_clearProgram 18 = .ok (.ireturn, 1) := by decide +kernel
set_option maxRecDepth 20000 in
theorem ggL_program_X11_program : GoodIn wsL_program wsX11_program := goodIn_ca (goodIn_r _ [6, 7, 8, 9, 10, 5, 11, 12, 13, 14, 15, 16, 17, 18, 19, 20, 21, 22, 23, 24, 25, 26, 27, 28, 29, 30, 31, 32, 33, 34, 35, 36, 37, 38, 39, 40, 41, 42, 43, 44, 45, 46, 47, 48, 49, 50, 51, 52, 53, 54, 55, 56, 57, 58] (by decide +kernel) (by decide +kernel)) (goodIn_sub (fun _ h => List.mem_cons_of_mem _ (List.mem_append_right _ h)) (by decide +kernel))
set_option maxRecDepth 20000 in
theorem gL_program_X11_program : GoodIn wsL_program (wsV RL 46 RX11 yX11_program wsX11_program) := goodIn_app (goodIn_of _ (by decide +kernel)) ggL_program_X11_program
theorem dL_program_0 : decode cL_program 0 = .ok (.aload 4, 2) := by decide +kernel
theorem dL_program_2 : decode cL_program 2 = .ok (.iconst 0, 1) := by decide +kernel
theorem dL_program_3 : decode cL_program 3 = .ok (.aload_n 0, 1) := by decide +kernel
theorem dL_program_4 : decode cL_program 4 = .ok (.iload_n 1, 1) := by decide +kernel
theorem dL_program_5 : decode cL_program 5 = .ok (.iload_n 2, 1) := by decide +kernel
theorem dL_program_6 : decode cL_program 6 = .ok (.iload_n 3, 1) := by decide +kernel
theorem dL_program_7 : decode cL_program 7 = .ok (.invokevirtual 46, 3) := by decide +kernel
theorem dL_program_10 : decode cL_program 10 = .ok (.i2l, 1) := by decide +kernel
theorem dL_program_11 : decode cL_program 11 = .ok (.lastore, 1) := by decide +kernel
theorem dL_program_12 : decode cL_program 12 = .ok (.goto 7, 3) := by decide +kernel
theorem dL_program_15 : decode cL_program 15 = .ok (.astore 5, 2) := by decide +kernel
theorem dL_program_17 : decode cL_program 17 = .ok (.iconst 1, 1) := by decide +kernel
theorem dL_program_18 : decode cL_program 18 = .ok (.ireturn, 1) := by decide +kernel
theorem dL_program_19 : decode cL_program 19 = .ok (.iconst 0, 1) := by decide +kernel
theorem dL_program_20 : decode cL_program 20 = .ok (.ireturn, 1) := by decide +kernel
set_option maxRecDepth 20000 in
theorem ggL_flaw_X11_flaw : GoodIn wsL_flaw wsX11_flaw := goodIn_ca (goodIn_r _ [6, 7, 8, 9, 10, 5, 11, 12, 13, 14, 15, 16, 17, 18, 19, 20, 21, 22, 23, 24, 25, 26, 27, 28, 29, 30, 31, 32, 33, 34, 35, 36, 37, 38, 39, 40, 41, 42, 43, 44, 45, 46, 47, 48, 49, 50, 51, 52, 53, 54, 55, 56, 57, 58, 59, 60, 61, 62, 63, 64, 65, 66, 67, 68, 69, 70, 71, 72, 73, 74, 75, 76, 77, 78, 79, 80, 81, 82, 83, 84, 85, 86, 87, 88, 89, 90, 91, 92, 93, 94, 95, 96, 97, 98, 99, 100, 101, 102, 103, 104, 105, 106, 107, 108, 109, 110, 111, 112, 113, 114, 115] (by decide +kernel) (by decide +kernel)) (goodIn_sub (fun _ h => List.mem_cons_of_mem _ (List.mem_append_right _ h)) (by decide +kernel))
set_option maxRecDepth 20000 in
theorem gL_flaw_X11_flaw : GoodIn wsL_flaw (wsV RL 49 RX11 yX11_flaw wsX11_flaw) := goodIn_app (goodIn_of _ (by decide +kernel)) ggL_flaw_X11_flaw
theorem dL_flaw_0 : decode cL_flaw 0 = .ok (.aload_n 3, 1) := by decide +kernel
theorem dL_flaw_1 : decode cL_flaw 1 = .ok (.iconst 0, 1) := by decide +kernel
theorem dL_flaw_2 : decode cL_flaw 2 = .ok (.aload_n 0, 1) := by decide +kernel
theorem dL_flaw_3 : decode cL_flaw 3 = .ok (.iload_n 1, 1) := by decide +kernel
theorem dL_flaw_4 : decode cL_flaw 4 = .ok (.iload_n 2, 1) := by decide +kernel
theorem dL_flaw_5 : decode cL_flaw 5 = .ok (.invokevirtual 49, 3) := by decide +kernel
theorem dL_flaw_8 : decode cL_flaw 8 = .ok (.i2l, 1) := by decide +kernel
theorem dL_flaw_9 : decode cL_flaw 9 = .ok (.lastore, 1) := by decide +kernel
theorem dL_flaw_10 : decode cL_flaw 10 = .ok (.goto 7, 3) := by decide +kernel
theorem dL_flaw_13 : decode cL_flaw 13 = .ok (.astore 4, 2) := by decide +kernel
theorem dL_flaw_15 : decode cL_flaw 15 = .ok (.iconst 1, 1) := by decide +kernel
theorem dL_flaw_16 : decode cL_flaw 16 = .ok (.ireturn, 1) := by decide +kernel
theorem dL_flaw_17 : decode cL_flaw 17 = .ok (.iconst 0, 1) := by decide +kernel
theorem dL_flaw_18 : decode cL_flaw 18 = .ok (.ireturn, 1) := by decide +kernel
set_option maxRecDepth 20000 in
theorem ggL_begin_X11_begin : GoodIn wsL_begin wsX11_begin := goodIn_ca (goodIn_ca (goodIn_r _ [7, 8, 9, 10, 11, 6, 12, 13, 14, 15, 16, 17, 18, 19, 20, 21, 22, 23, 24, 25, 26, 27, 28, 29, 30, 31, 32, 33, 34, 35, 36, 37, 38, 39, 40, 41, 42, 43, 44, 45, 46, 47, 48, 49, 50, 51, 52, 53, 54, 55, 56, 57, 58, 59, 60, 61, 62, 63, 64, 65, 66, 67, 68, 69, 70, 71, 72, 73, 74, 75, 76, 77, 78, 79, 80, 81, 82, 83, 84, 85, 86, 87, 88, 89, 90, 91, 92, 93, 94, 95, 96, 97, 98, 99, 100, 101, 102, 103, 104, 105, 106, 107, 108, 109, 110, 111, 112, 113, 114, 115, 116, 117, 118, 119, 120, 121, 122, 123, 124, 125, 126, 127, 128, 129, 130, 131, 132, 133, 134, 135, 136, 137, 138, 139, 140, 141, 142, 143, 144, 145, 146, 147, 148, 149, 150, 151, 152, 153, 154, 155, 156, 157, 158, 159, 160, 161, 162, 163, 164, 165, 166, 167, 168, 169, 170, 171, 172, 173, 174, 175, 176, 177, 178, 179, 180, 181, 182, 183, 184, 185, 186, 187, 188, 189, 190, 191, 192, 193, 194, 195, 196, 197, 198, 199, 200, 201, 202, 203, 204, 205, 206, 207, 208, 209, 210, 211, 212, 213, 214, 215, 216, 217, 218, 219, 220, 221, 222, 223, 224, 225, 226, 227, 228, 229, 230, 231, 232, 233, 234, 235, 236, 237, 238, 239, 240, 241, 242, 243, 244, 245, 246, 247, 248, 249, 250, 251] (by decide +kernel) (by decide +kernel)) (goodIn_sub (fun _ h => List.mem_cons_of_mem _ (List.mem_append_left _ (List.mem_append_right _ h))) (by decide +kernel))) (goodIn_sub (fun _ h => List.mem_cons_of_mem _ (List.mem_append_right _ h)) (by decide +kernel))
set_option maxRecDepth 20000 in
theorem gL_begin_X11_begin : GoodIn wsL_begin (wsV RL 52 RX11 yX11_begin wsX11_begin) := goodIn_app (goodIn_of _ (by decide +kernel)) ggL_begin_X11_begin
theorem dL_begin_0 : decode cL_begin 0 = .ok (.aload_n 2, 1) := by decide +kernel
theorem dL_begin_1 : decode cL_begin 1 = .ok (.iconst 0, 1) := by decide +kernel
theorem dL_begin_2 : decode cL_begin 2 = .ok (.aload_n 0, 1) := by decide +kernel
theorem dL_begin_3 : decode cL_begin 3 = .ok (.iload_n 1, 1) := by decide +kernel
theorem dL_begin_4 : decode cL_begin 4 = .ok (.invokevirtual 52, 3) := by decide +kernel
theorem dL_begin_7 : decode cL_begin 7 = .ok (.i2l, 1) := by decide +kernel
theorem dL_begin_8 : decode cL_begin 8 = .ok (.lastore, 1) := by decide +kernel
theorem dL_begin_9 : decode cL_begin 9 = .ok (.goto 9, 3) := by decide +kernel
theorem dL_begin_12 : decode cL_begin 12 = .ok (.astore_n 3, 1) := by decide +kernel
theorem dL_begin_13 : decode cL_begin 13 = .ok (.iconst 1, 1) := by decide +kernel
theorem dL_begin_14 : decode cL_begin 14 = .ok (.ireturn, 1) := by decide +kernel
theorem dL_begin_15 : decode cL_begin 15 = .ok (.astore_n 3, 1) := by decide +kernel
theorem dL_begin_16 : decode cL_begin 16 = .ok (.iconst 2, 1) := by decide +kernel
theorem dL_begin_17 : decode cL_begin 17 = .ok (.ireturn, 1) := by decide +kernel
theorem dL_begin_18 : decode cL_begin 18 = .ok (.iconst 0, 1) := by decide +kernel
theorem dL_begin_19 : decode cL_begin 19 = .ok (.ireturn, 1) := by decide +kernel
set_option maxRecDepth 20000 in
theorem ggL_play_X11_play : GoodIn wsL_play wsX11_play := goodIn_ca (goodIn_ca (goodIn_r _ [7, 8, 9, 10, 11, 6, 12, 13, 14, 15, 16, 17, 18, 19, 20, 21, 22, 23, 24, 25, 26, 27, 28, 29, 30, 31, 32, 33, 34, 35, 36, 37, 38, 39, 40, 41, 42, 43, 44, 45, 46, 47, 48, 49, 50, 51, 52, 53, 54, 55, 56, 57, 58, 59, 60, 61, 62, 63, 64, 65, 66, 67, 68, 69, 70, 71, 72, 73, 74, 75, 76, 77, 78, 79, 80, 81, 82, 83, 84, 85, 86, 87, 88, 89, 90, 91, 92, 93, 94, 95, 96, 97, 98, 99, 100, 101, 102, 103, 104, 105, 106, 107, 108, 109, 110, 111, 112, 113, 114, 115, 116, 117, 118, 119, 120, 121, 122, 123, 124, 125, 126, 127, 128, 129, 130, 131, 132, 133, 134, 135, 136, 137, 138, 139, 140, 141, 142, 143, 144, 145, 146, 147, 148, 149, 150, 151, 152, 153, 154, 155, 156, 157, 158, 159, 160, 161, 162, 163, 164] (by decide +kernel) (by decide +kernel)) (goodIn_sub (fun _ h => List.mem_cons_of_mem _ (List.mem_append_left _ (List.mem_append_right _ h))) (by decide +kernel))) (goodIn_sub (fun _ h => List.mem_cons_of_mem _ (List.mem_append_right _ h)) (by decide +kernel))
set_option maxRecDepth 20000 in
theorem gL_play_X11_play : GoodIn wsL_play (wsV RL 56 RX11 yX11_play wsX11_play) := goodIn_app (goodIn_of _ (by decide +kernel)) ggL_play_X11_play
theorem dL_play_0 : decode cL_play 0 = .ok (.aload_n 2, 1) := by decide +kernel
theorem dL_play_1 : decode cL_play 1 = .ok (.iconst 0, 1) := by decide +kernel
theorem dL_play_2 : decode cL_play 2 = .ok (.aload_n 0, 1) := by decide +kernel
theorem dL_play_3 : decode cL_play 3 = .ok (.iload_n 1, 1) := by decide +kernel
theorem dL_play_4 : decode cL_play 4 = .ok (.invokevirtual 56, 3) := by decide +kernel
theorem dL_play_7 : decode cL_play 7 = .ok (.i2l, 1) := by decide +kernel
theorem dL_play_8 : decode cL_play 8 = .ok (.lastore, 1) := by decide +kernel
theorem dL_play_9 : decode cL_play 9 = .ok (.goto 9, 3) := by decide +kernel
theorem dL_play_12 : decode cL_play 12 = .ok (.astore_n 3, 1) := by decide +kernel
theorem dL_play_13 : decode cL_play 13 = .ok (.iconst 1, 1) := by decide +kernel
theorem dL_play_14 : decode cL_play 14 = .ok (.ireturn, 1) := by decide +kernel
theorem dL_play_15 : decode cL_play 15 = .ok (.astore_n 3, 1) := by decide +kernel
theorem dL_play_16 : decode cL_play 16 = .ok (.iconst 2, 1) := by decide +kernel
theorem dL_play_17 : decode cL_play 17 = .ok (.ireturn, 1) := by decide +kernel
theorem dL_play_18 : decode cL_play 18 = .ok (.iconst 0, 1) := by decide +kernel
theorem dL_play_19 : decode cL_play 19 = .ok (.ireturn, 1) := by decide +kernel
set_option maxRecDepth 20000 in
theorem ggL_mark_X11_mark : GoodIn wsL_mark wsX11_mark := goodIn_ca (goodIn_ca (goodIn_ca (goodIn_r _ [8, 9, 10, 11, 12, 7, 13, 14, 15, 16, 17, 18, 19, 20, 21, 22, 23, 24, 25, 26, 27, 28, 29, 30, 31, 32, 33, 34, 35, 36, 37, 38, 39, 40, 41, 42, 43, 44, 45, 46, 47, 48, 49, 50, 51, 52, 53, 54, 55, 56, 57, 58, 59, 60, 61, 62, 63, 64, 65, 66, 67, 68, 69, 70, 71, 72, 73, 74, 75, 76, 77, 78, 79, 80, 81, 82, 83, 84, 85, 86, 87, 88, 89, 90, 91, 92, 93, 94, 95, 96, 97, 98, 99, 100, 101, 102, 103, 104, 105, 106, 107, 108, 109, 110, 111, 112, 113, 114, 115, 116, 117, 118, 119, 120, 121, 122, 123, 124, 125, 126, 127, 128, 129, 130, 131, 132, 133, 134, 135, 136, 137, 138, 139, 140, 141, 142, 143, 144, 145, 146, 147, 148, 149, 150, 151, 152, 153, 154, 155, 156, 157, 158, 159, 160, 161, 162, 163, 164, 165, 166, 167, 168, 169, 170, 171, 172, 173, 174, 175, 176, 177, 178, 179, 180, 181, 182, 183, 184, 185, 186, 187, 188, 189, 190, 191, 192, 193, 194, 195, 196, 197, 198, 199, 200, 201, 202, 203, 204, 205, 206, 207, 208, 209, 210, 211, 212, 213, 214, 215, 216, 217, 218, 219, 220, 221, 222, 223, 224, 225, 226, 227, 228] (by decide +kernel) (by decide +kernel)) (goodIn_sub (fun _ h => List.mem_cons_of_mem _ (List.mem_append_left _ (List.mem_append_left _ (List.mem_append_right _ h)))) (by decide +kernel))) (goodIn_sub (fun _ h => List.mem_cons_of_mem _ (List.mem_append_left _ (List.mem_append_right _ h))) (by decide +kernel))) (goodIn_sub (fun _ h => List.mem_cons_of_mem _ (List.mem_append_right _ h)) (by decide +kernel))
set_option maxRecDepth 20000 in
theorem gL_mark_X11_mark : GoodIn wsL_mark (wsV RL 59 RX11 yX11_mark wsX11_mark) := goodIn_app (goodIn_of _ (by decide +kernel)) ggL_mark_X11_mark
theorem dL_mark_0 : decode cL_mark 0 = .ok (.aload 4, 2) := by decide +kernel
theorem dL_mark_2 : decode cL_mark 2 = .ok (.iconst 0, 1) := by decide +kernel
theorem dL_mark_3 : decode cL_mark 3 = .ok (.aload_n 0, 1) := by decide +kernel
theorem dL_mark_4 : decode cL_mark 4 = .ok (.iload_n 1, 1) := by decide +kernel
theorem dL_mark_5 : decode cL_mark 5 = .ok (.iload_n 2, 1) := by decide +kernel
theorem dL_mark_6 : decode cL_mark 6 = .ok (.iload_n 3, 1) := by decide +kernel
theorem dL_mark_7 : decode cL_mark 7 = .ok (.invokevirtual 59, 3) := by decide +kernel
theorem dL_mark_10 : decode cL_mark 10 = .ok (.i2l, 1) := by decide +kernel
theorem dL_mark_11 : decode cL_mark 11 = .ok (.lastore, 1) := by decide +kernel
theorem dL_mark_12 : decode cL_mark 12 = .ok (.goto 15, 3) := by decide +kernel
theorem dL_mark_15 : decode cL_mark 15 = .ok (.astore 5, 2) := by decide +kernel
theorem dL_mark_17 : decode cL_mark 17 = .ok (.iconst 1, 1) := by decide +kernel
theorem dL_mark_18 : decode cL_mark 18 = .ok (.ireturn, 1) := by decide +kernel
theorem dL_mark_19 : decode cL_mark 19 = .ok (.astore 5, 2) := by decide +kernel
theorem dL_mark_21 : decode cL_mark 21 = .ok (.iconst 2, 1) := by decide +kernel
theorem dL_mark_22 : decode cL_mark 22 = .ok (.ireturn, 1) := by decide +kernel
theorem dL_mark_23 : decode cL_mark 23 = .ok (.astore 5, 2) := by decide +kernel
theorem dL_mark_25 : decode cL_mark 25 = .ok (.iconst 3, 1) := by decide +kernel
theorem dL_mark_26 : decode cL_mark 26 = .ok (.ireturn, 1) := by decide +kernel
theorem dL_mark_27 : decode cL_mark 27 = .ok (.iconst 0, 1) := by decide +kernel
theorem dL_mark_28 : decode cL_mark 28 = .ok (.ireturn, 1) := by decide +kernel
set_option maxRecDepth 20000 in
theorem ggL_abstain_X11_abstain : GoodIn wsL_abstain wsX11_abstain := goodIn_ca (goodIn_ca (goodIn_r _ [7, 8, 9, 10, 6, 11, 12, 13, 14, 15, 16, 17, 18, 19, 20, 21, 22, 23, 24, 25, 26, 27, 28, 29, 30, 31, 32, 33, 34, 35, 36, 37, 38, 39, 40, 41, 42, 43, 44, 45, 46, 47, 48, 49, 50, 51, 52, 53, 54, 55, 56, 57, 58, 59, 60, 61, 62, 63, 64, 65, 66, 67, 68, 69, 70, 71, 72, 73, 74, 75, 76, 77, 78, 79, 80, 81, 82, 83, 84, 85, 86, 87, 88, 89, 90, 91, 92, 93, 94, 95, 96, 97, 98, 99, 100, 101, 102, 103, 104, 105, 106, 107, 108, 109, 110, 111, 112, 113, 114, 115, 116, 117, 118, 119, 120, 121, 122, 123, 124, 125, 126, 127, 128, 129, 130, 131, 132, 133, 134, 135, 136, 137, 138, 139, 140, 141, 142, 143, 144, 145, 146, 147, 148, 149, 150, 151, 152, 153, 154, 155, 156, 157, 158, 159, 160, 161, 162, 163, 164, 165, 166, 167, 168, 169, 170, 171, 172, 173, 174, 175, 176, 177, 178, 179, 180, 181, 182, 183, 184, 185, 186, 187, 188, 189, 190, 191, 192, 193, 194, 195, 196, 197, 198, 199, 200, 201, 202, 203, 204, 205, 206, 207, 208, 209, 210, 211, 212, 213, 214, 215, 216, 217, 218, 219, 220, 221] (by decide +kernel) (by decide +kernel)) (goodIn_sub (fun _ h => List.mem_cons_of_mem _ (List.mem_append_left _ (List.mem_append_right _ h))) (by decide +kernel))) (goodIn_sub (fun _ h => List.mem_cons_of_mem _ (List.mem_append_right _ h)) (by decide +kernel))
set_option maxRecDepth 20000 in
theorem gL_abstain_X11_abstain : GoodIn wsL_abstain (wsV RL 62 RX11 yX11_abstain wsX11_abstain) := goodIn_app (goodIn_of _ (by decide +kernel)) ggL_abstain_X11_abstain
theorem dL_abstain_0 : decode cL_abstain 0 = .ok (.aload_n 3, 1) := by decide +kernel
theorem dL_abstain_1 : decode cL_abstain 1 = .ok (.iconst 0, 1) := by decide +kernel
theorem dL_abstain_2 : decode cL_abstain 2 = .ok (.aload_n 0, 1) := by decide +kernel
theorem dL_abstain_3 : decode cL_abstain 3 = .ok (.iload_n 1, 1) := by decide +kernel
theorem dL_abstain_4 : decode cL_abstain 4 = .ok (.iload_n 2, 1) := by decide +kernel
theorem dL_abstain_5 : decode cL_abstain 5 = .ok (.invokevirtual 62, 3) := by decide +kernel
theorem dL_abstain_8 : decode cL_abstain 8 = .ok (.i2l, 1) := by decide +kernel
theorem dL_abstain_9 : decode cL_abstain 9 = .ok (.lastore, 1) := by decide +kernel
theorem dL_abstain_10 : decode cL_abstain 10 = .ok (.goto 11, 3) := by decide +kernel
theorem dL_abstain_13 : decode cL_abstain 13 = .ok (.astore 4, 2) := by decide +kernel
theorem dL_abstain_15 : decode cL_abstain 15 = .ok (.iconst 1, 1) := by decide +kernel
theorem dL_abstain_16 : decode cL_abstain 16 = .ok (.ireturn, 1) := by decide +kernel
theorem dL_abstain_17 : decode cL_abstain 17 = .ok (.astore 4, 2) := by decide +kernel
theorem dL_abstain_19 : decode cL_abstain 19 = .ok (.iconst 2, 1) := by decide +kernel
theorem dL_abstain_20 : decode cL_abstain 20 = .ok (.ireturn, 1) := by decide +kernel
theorem dL_abstain_21 : decode cL_abstain 21 = .ok (.iconst 0, 1) := by decide +kernel
theorem dL_abstain_22 : decode cL_abstain 22 = .ok (.ireturn, 1) := by decide +kernel
set_option maxRecDepth 20000 in
theorem ggL_close_X11_close : GoodIn wsL_close wsX11_close := goodIn_ca (goodIn_r _ [6, 7, 8, 9, 10, 11, 12, 13, 14, 15, 16, 17, 18, 19, 20, 21, 22, 23, 24, 25, 26, 27, 28, 29, 30, 31, 32, 33, 34, 35, 5, 36, 37, 38, 39, 40, 41, 42, 43, 44, 45, 46, 47, 48, 49, 50, 51, 52, 53, 54, 55, 56, 57, 58, 59, 60, 61, 62, 63, 64, 65, 66, 67, 68, 69, 70, 71, 72, 73, 74, 75, 76, 77, 78, 79, 80, 81, 82, 83, 84, 85, 86, 87, 88, 89, 90, 91, 92, 93, 94, 95, 96, 97, 98, 99, 100, 101, 102, 103, 104, 105, 106, 107, 108, 109, 110, 111, 112, 113, 114, 115, 116, 117, 118, 119, 120, 121, 122, 123, 124, 125, 126, 127, 128, 129, 130, 131, 132, 133, 134, 135, 136, 137, 138, 139, 140, 141, 142, 143, 144, 145, 146, 147, 148, 149, 150, 151, 152, 153, 154, 155, 156, 157, 158, 159, 160, 161, 162, 163, 164, 165, 166, 167, 168, 169, 170, 171, 172, 173, 174, 175, 176, 177, 178, 179, 180, 181, 182, 183, 184, 185, 186, 187, 188, 189, 190, 191, 192, 193, 194, 195, 196, 197, 198, 199, 200, 201, 202, 203, 204, 205, 206, 207, 208, 209, 210, 211, 212, 213, 214, 215, 216, 217, 218, 219, 220, 221, 222, 223, 224, 225, 226, 227, 228, 229, 230, 231, 232, 233, 234, 235, 236, 237, 238, 239, 240, 241, 242, 243, 244, 245, 246, 247, 248, 249, 250, 251, 252, 253, 254, 255, 256, 257, 258, 259, 260, 261, 262, 263, 264, 265, 266, 267, 268, 269, 270, 271, 272, 273, 274, 275, 276, 277, 278, 279, 280, 281, 282, 283, 284, 285, 286, 287, 288, 289, 290, 291, 292, 293, 294, 295, 296, 297, 298, 299, 300, 301, 302, 303, 304, 305, 306, 307, 308, 309, 310, 311, 312, 313, 314, 315, 316, 317, 318, 319, 320, 321, 322, 323, 324, 325, 326, 327, 328, 329, 330, 331, 332, 333, 334, 335, 336, 337, 338, 339, 340, 341, 342, 343, 344, 345, 346, 347, 348, 349, 350, 351, 352, 353, 354, 355, 356, 357, 358, 359, 360, 361, 362, 363, 364, 365, 366, 367, 368, 369, 370, 371, 372, 373, 374, 375, 376, 377, 378, 379, 380, 381, 382, 383, 384, 385, 386, 387, 388, 389, 390, 391, 392, 393, 394, 395, 396, 397, 398, 399, 400, 401, 402, 403, 404, 405, 406] (by decide +kernel) (by decide +kernel)) (goodIn_sub (fun _ h => List.mem_cons_of_mem _ (List.mem_append_right _ h)) (by decide +kernel))
set_option maxRecDepth 20000 in
theorem gL_close_X11_close : GoodIn wsL_close (wsV RL 65 RX11 yX11_close wsX11_close) := goodIn_app (goodIn_of _ (by decide +kernel)) ggL_close_X11_close
theorem dL_close_0 : decode cL_close 0 = .ok (.aload_n 1, 1) := by decide +kernel
theorem dL_close_1 : decode cL_close 1 = .ok (.iconst 0, 1) := by decide +kernel
theorem dL_close_2 : decode cL_close 2 = .ok (.aload_n 0, 1) := by decide +kernel
theorem dL_close_3 : decode cL_close 3 = .ok (.invokevirtual 65, 3) := by decide +kernel
theorem dL_close_6 : decode cL_close 6 = .ok (.i2l, 1) := by decide +kernel
theorem dL_close_7 : decode cL_close 7 = .ok (.lastore, 1) := by decide +kernel
theorem dL_close_8 : decode cL_close 8 = .ok (.goto 6, 3) := by decide +kernel
theorem dL_close_11 : decode cL_close 11 = .ok (.astore_n 2, 1) := by decide +kernel
theorem dL_close_12 : decode cL_close 12 = .ok (.iconst 1, 1) := by decide +kernel
theorem dL_close_13 : decode cL_close 13 = .ok (.ireturn, 1) := by decide +kernel
theorem dL_close_14 : decode cL_close 14 = .ok (.iconst 0, 1) := by decide +kernel
theorem dL_close_15 : decode cL_close 15 = .ok (.ireturn, 1) := by decide +kernel
set_option maxRecDepth 20000 in
theorem ggL_withdraw_X11_withdraw : GoodIn wsL_withdraw wsX11_withdraw := goodIn_ca (goodIn_ca (goodIn_r _ [7, 8, 9, 10, 11, 12, 6, 13, 14, 15, 16, 17, 18, 19, 20, 21, 22, 23, 24, 25, 26, 27, 28, 29, 30, 31, 32, 33, 34, 35, 36, 37, 38, 39, 40, 41, 42, 43, 44, 45, 46, 47, 48, 49, 50, 51, 52, 53, 54, 55, 56, 57, 58, 59, 60, 61, 62, 63, 64, 65, 66, 67, 68, 69, 70, 71, 72, 73, 74, 75, 76, 77, 78, 79, 80, 81, 82, 83, 84, 85, 86, 87, 88, 89, 90, 91, 92, 93, 94, 95, 96, 97, 98, 99, 100, 101, 102, 103, 104, 105, 106, 107, 108, 109, 110, 111, 112, 113, 114, 115, 116, 117, 118, 119, 120, 121, 122, 123, 124, 125, 126, 127, 128, 129, 130, 131, 132, 133, 134, 135, 136, 137, 138, 139, 140, 141, 142, 143, 144, 145, 146, 147, 148, 149, 150, 151, 152, 153, 154, 155, 156, 157, 158, 159, 160, 161, 162, 163, 164, 165, 166, 167, 168, 169, 170, 171, 172, 173, 174, 175, 176, 177, 178, 179, 180, 181, 182, 183, 184, 185, 186, 187, 188, 189, 190, 191, 192, 193, 194, 195, 196, 197, 198, 199, 200, 201, 202, 203, 204, 205] (by decide +kernel) (by decide +kernel)) (goodIn_sub (fun _ h => List.mem_cons_of_mem _ (List.mem_append_left _ (List.mem_append_right _ h))) (by decide +kernel))) (goodIn_sub (fun _ h => List.mem_cons_of_mem _ (List.mem_append_right _ h)) (by decide +kernel))
set_option maxRecDepth 20000 in
theorem gL_withdraw_X11_withdraw : GoodIn wsL_withdraw (wsV RL 68 RX11 yX11_withdraw wsX11_withdraw) := goodIn_app (goodIn_of _ (by decide +kernel)) ggL_withdraw_X11_withdraw
theorem dL_withdraw_0 : decode cL_withdraw 0 = .ok (.aload_n 2, 1) := by decide +kernel
theorem dL_withdraw_1 : decode cL_withdraw 1 = .ok (.iconst 0, 1) := by decide +kernel
theorem dL_withdraw_2 : decode cL_withdraw 2 = .ok (.aload_n 0, 1) := by decide +kernel
theorem dL_withdraw_3 : decode cL_withdraw 3 = .ok (.iload_n 1, 1) := by decide +kernel
theorem dL_withdraw_4 : decode cL_withdraw 4 = .ok (.invokevirtual 68, 3) := by decide +kernel
theorem dL_withdraw_7 : decode cL_withdraw 7 = .ok (.i2l, 1) := by decide +kernel
theorem dL_withdraw_8 : decode cL_withdraw 8 = .ok (.lastore, 1) := by decide +kernel
theorem dL_withdraw_9 : decode cL_withdraw 9 = .ok (.goto 9, 3) := by decide +kernel
theorem dL_withdraw_12 : decode cL_withdraw 12 = .ok (.astore_n 3, 1) := by decide +kernel
theorem dL_withdraw_13 : decode cL_withdraw 13 = .ok (.iconst 1, 1) := by decide +kernel
theorem dL_withdraw_14 : decode cL_withdraw 14 = .ok (.ireturn, 1) := by decide +kernel
theorem dL_withdraw_15 : decode cL_withdraw 15 = .ok (.astore_n 3, 1) := by decide +kernel
theorem dL_withdraw_16 : decode cL_withdraw 16 = .ok (.iconst 2, 1) := by decide +kernel
theorem dL_withdraw_17 : decode cL_withdraw 17 = .ok (.ireturn, 1) := by decide +kernel
theorem dL_withdraw_18 : decode cL_withdraw 18 = .ok (.iconst 0, 1) := by decide +kernel
theorem dL_withdraw_19 : decode cL_withdraw 19 = .ok (.ireturn, 1) := by decide +kernel
set_option maxRecDepth 20000 in
theorem ggL_info_X11_info : GoodIn wsL_info wsX11_info := goodIn_ca (goodIn_r _ [6, 7, 8, 9, 5, 10, 11, 12, 13, 14, 15, 16, 17, 18, 19, 20, 21, 22, 23, 24, 25, 26, 27, 28, 29, 30, 31, 32, 33, 34, 35, 36, 37, 38, 39, 40, 41, 42, 43, 44, 45, 46, 47, 48, 49, 50, 51, 52, 53, 54, 55, 56, 57, 58, 59, 60, 61, 62, 63, 64, 65, 66, 67, 68, 69, 70, 71, 72, 73, 74, 75, 76, 77, 78, 79, 80, 81, 82, 83, 84] (by decide +kernel) (by decide +kernel)) (goodIn_sub (fun _ h => List.mem_cons_of_mem _ (List.mem_append_right _ h)) (by decide +kernel))
set_option maxRecDepth 20000 in
theorem gL_info_X11_info : GoodIn wsL_info (wsV RL 71 RX11 yX11_info wsX11_info) := goodIn_app (goodIn_of _ (by decide +kernel)) ggL_info_X11_info
theorem dL_info_0 : decode cL_info 0 = .ok (.aload_n 2, 1) := by decide +kernel
theorem dL_info_1 : decode cL_info 1 = .ok (.iconst 0, 1) := by decide +kernel
theorem dL_info_2 : decode cL_info 2 = .ok (.aload_n 0, 1) := by decide +kernel
theorem dL_info_3 : decode cL_info 3 = .ok (.iload_n 1, 1) := by decide +kernel
theorem dL_info_4 : decode cL_info 4 = .ok (.invokevirtual 71, 3) := by decide +kernel
theorem dL_info_7 : decode cL_info 7 = .ok (.i2l, 1) := by decide +kernel
theorem dL_info_8 : decode cL_info 8 = .ok (.lastore, 1) := by decide +kernel
theorem dL_info_9 : decode cL_info 9 = .ok (.goto 6, 3) := by decide +kernel
theorem dL_info_12 : decode cL_info 12 = .ok (.astore_n 3, 1) := by decide +kernel
theorem dL_info_13 : decode cL_info 13 = .ok (.iconst 1, 1) := by decide +kernel
theorem dL_info_14 : decode cL_info 14 = .ok (.ireturn, 1) := by decide +kernel
theorem dL_info_15 : decode cL_info 15 = .ok (.iconst 0, 1) := by decide +kernel
theorem dL_info_16 : decode cL_info 16 = .ok (.ireturn, 1) := by decide +kernel
set_option maxRecDepth 20000 in
theorem ggL_entrant_X11_entrant : GoodIn wsL_entrant wsX11_entrant := goodIn_ca (goodIn_ca (goodIn_r _ [7, 8, 9, 10, 11, 6, 12, 13, 14, 15, 16, 17, 18, 19, 20, 21, 22, 23, 24, 25, 26, 27, 28, 29, 30, 31, 32, 33, 34, 35, 36, 37, 38, 39, 40, 41, 42, 43, 44, 45, 46, 47, 48, 49, 50, 51, 52, 53, 54, 55, 56, 57, 58, 59, 60, 61, 62, 63, 64, 65, 66, 67, 68, 69, 70, 71, 72, 73, 74, 75, 76, 77, 78, 79, 80, 81, 82, 83, 84, 85, 86, 87, 88, 89, 90, 91, 92, 93, 94, 95, 96, 97, 98, 99, 100, 101, 102, 103, 104, 105, 106, 107, 108, 109, 110, 111, 112, 113, 114, 115, 116, 117, 118, 119, 120, 121, 122, 123, 124, 125, 126, 127, 128, 129, 130, 131, 132, 133, 134, 135, 136, 137, 138, 139, 140, 141, 142, 143, 144, 145, 146, 147, 148, 149, 150, 151, 152, 153, 154, 155, 156, 157, 158, 159, 160, 161, 162, 163, 164, 165, 166, 167, 168, 169] (by decide +kernel) (by decide +kernel)) (goodIn_sub (fun _ h => List.mem_cons_of_mem _ (List.mem_append_left _ (List.mem_append_right _ h))) (by decide +kernel))) (goodIn_sub (fun _ h => List.mem_cons_of_mem _ (List.mem_append_right _ h)) (by decide +kernel))
set_option maxRecDepth 20000 in
theorem gL_entrant_X11_entrant : GoodIn wsL_entrant (wsV RL 74 RX11 yX11_entrant wsX11_entrant) := goodIn_app (goodIn_of _ (by decide +kernel)) ggL_entrant_X11_entrant
theorem dL_entrant_0 : decode cL_entrant 0 = .ok (.aload_n 3, 1) := by decide +kernel
theorem dL_entrant_1 : decode cL_entrant 1 = .ok (.iconst 0, 1) := by decide +kernel
theorem dL_entrant_2 : decode cL_entrant 2 = .ok (.aload_n 0, 1) := by decide +kernel
theorem dL_entrant_3 : decode cL_entrant 3 = .ok (.iload_n 1, 1) := by decide +kernel
theorem dL_entrant_4 : decode cL_entrant 4 = .ok (.iload_n 2, 1) := by decide +kernel
theorem dL_entrant_5 : decode cL_entrant 5 = .ok (.invokevirtual 74, 3) := by decide +kernel
theorem dL_entrant_8 : decode cL_entrant 8 = .ok (.i2l, 1) := by decide +kernel
theorem dL_entrant_9 : decode cL_entrant 9 = .ok (.lastore, 1) := by decide +kernel
theorem dL_entrant_10 : decode cL_entrant 10 = .ok (.goto 11, 3) := by decide +kernel
theorem dL_entrant_13 : decode cL_entrant 13 = .ok (.astore 4, 2) := by decide +kernel
theorem dL_entrant_15 : decode cL_entrant 15 = .ok (.iconst 1, 1) := by decide +kernel
theorem dL_entrant_16 : decode cL_entrant 16 = .ok (.ireturn, 1) := by decide +kernel
theorem dL_entrant_17 : decode cL_entrant 17 = .ok (.astore 4, 2) := by decide +kernel
theorem dL_entrant_19 : decode cL_entrant 19 = .ok (.iconst 2, 1) := by decide +kernel
theorem dL_entrant_20 : decode cL_entrant 20 = .ok (.ireturn, 1) := by decide +kernel
theorem dL_entrant_21 : decode cL_entrant 21 = .ok (.iconst 0, 1) := by decide +kernel
theorem dL_entrant_22 : decode cL_entrant 22 = .ok (.ireturn, 1) := by decide +kernel
set_option maxRecDepth 20000 in
theorem ggL_marked_X11_marked : GoodIn wsL_marked wsX11_marked := goodIn_ca (goodIn_r _ [6, 7, 8, 9, 10, 5, 11, 12, 13, 14, 15, 16, 17, 18, 19, 20, 21, 22, 23, 24, 25, 26, 27, 28, 29, 30, 31, 32, 33, 34, 35, 36, 37, 38, 39, 40, 41, 42, 43, 44, 45, 46, 47, 48, 49, 50, 51, 52, 53, 54, 55, 56, 57, 58, 59, 60, 61, 62, 63, 64] (by decide +kernel) (by decide +kernel)) (goodIn_sub (fun _ h => List.mem_cons_of_mem _ (List.mem_append_right _ h)) (by decide +kernel))
set_option maxRecDepth 20000 in
theorem gL_marked_X11_marked : GoodIn wsL_marked (wsV RL 77 RX11 yX11_marked wsX11_marked) := goodIn_app (goodIn_of _ (by decide +kernel)) ggL_marked_X11_marked
theorem dL_marked_0 : decode cL_marked 0 = .ok (.aload 4, 2) := by decide +kernel
theorem dL_marked_2 : decode cL_marked 2 = .ok (.iconst 0, 1) := by decide +kernel
theorem dL_marked_3 : decode cL_marked 3 = .ok (.aload_n 0, 1) := by decide +kernel
theorem dL_marked_4 : decode cL_marked 4 = .ok (.iload_n 1, 1) := by decide +kernel
theorem dL_marked_5 : decode cL_marked 5 = .ok (.iload_n 2, 1) := by decide +kernel
theorem dL_marked_6 : decode cL_marked 6 = .ok (.iload_n 3, 1) := by decide +kernel
theorem dL_marked_7 : decode cL_marked 7 = .ok (.invokevirtual 77, 3) := by decide +kernel
theorem dL_marked_10 : decode cL_marked 10 = .ok (.i2l, 1) := by decide +kernel
theorem dL_marked_11 : decode cL_marked 11 = .ok (.lastore, 1) := by decide +kernel
theorem dL_marked_12 : decode cL_marked 12 = .ok (.goto 7, 3) := by decide +kernel
theorem dL_marked_15 : decode cL_marked 15 = .ok (.astore 5, 2) := by decide +kernel
theorem dL_marked_17 : decode cL_marked 17 = .ok (.iconst 1, 1) := by decide +kernel
theorem dL_marked_18 : decode cL_marked 18 = .ok (.ireturn, 1) := by decide +kernel
theorem dL_marked_19 : decode cL_marked 19 = .ok (.iconst 0, 1) := by decide +kernel
theorem dL_marked_20 : decode cL_marked 20 = .ok (.ireturn, 1) := by decide +kernel
set_option maxRecDepth 20000 in
theorem ggL_history_X11_history : GoodIn wsL_history wsX11_history := goodIn_ca (goodIn_r _ [6, 7, 8, 9, 10, 5, 11, 12, 13, 14, 15, 16, 17, 18, 19, 20, 21, 22, 23, 24, 25, 26, 27, 28, 29, 30, 31, 32, 33, 34, 35, 36, 37, 38, 39, 40, 41, 42, 43, 44, 45, 46, 47, 48, 49, 50, 51] (by decide +kernel) (by decide +kernel)) (goodIn_sub (fun _ h => List.mem_cons_of_mem _ (List.mem_append_right _ h)) (by decide +kernel))
set_option maxRecDepth 20000 in
theorem gL_history_X11_history : GoodIn wsL_history (wsV RL 81 RX11 yX11_history wsX11_history) := goodIn_app (goodIn_of _ (by decide +kernel)) ggL_history_X11_history
theorem dL_history_0 : decode cL_history 0 = .ok (.aload_n 3, 1) := by decide +kernel
theorem dL_history_1 : decode cL_history 1 = .ok (.iconst 0, 1) := by decide +kernel
theorem dL_history_2 : decode cL_history 2 = .ok (.aload_n 0, 1) := by decide +kernel
theorem dL_history_3 : decode cL_history 3 = .ok (.iload_n 1, 1) := by decide +kernel
theorem dL_history_4 : decode cL_history 4 = .ok (.iload_n 2, 1) := by decide +kernel
theorem dL_history_5 : decode cL_history 5 = .ok (.invokevirtual 81, 3) := by decide +kernel
theorem dL_history_8 : decode cL_history 8 = .ok (.i2l, 1) := by decide +kernel
theorem dL_history_9 : decode cL_history 9 = .ok (.lastore, 1) := by decide +kernel
theorem dL_history_10 : decode cL_history 10 = .ok (.goto 7, 3) := by decide +kernel
theorem dL_history_13 : decode cL_history 13 = .ok (.astore 4, 2) := by decide +kernel
theorem dL_history_15 : decode cL_history 15 = .ok (.iconst 1, 1) := by decide +kernel
theorem dL_history_16 : decode cL_history 16 = .ok (.ireturn, 1) := by decide +kernel
theorem dL_history_17 : decode cL_history 17 = .ok (.iconst 0, 1) := by decide +kernel
theorem dL_history_18 : decode cL_history 18 = .ok (.ireturn, 1) := by decide +kernel
set_option maxRecDepth 20000 in
theorem ggL_wouldBe_X11_wouldBe : GoodIn wsL_wouldBe wsX11_wouldBe := goodIn_ca (goodIn_r _ [6, 7, 8, 9, 5, 10, 11, 12, 13, 14, 15, 16, 17, 18, 19, 20, 21, 22, 23, 24, 25, 26, 27, 28, 29, 30, 31, 32, 33, 34, 35, 36, 37, 38, 39, 40, 41, 42, 43, 44, 45, 46, 47, 48, 49, 50, 51, 52, 53, 54, 55, 56, 57, 58, 59, 60, 61, 62, 63, 64, 65, 66, 67, 68, 69, 70, 71, 72, 73, 74, 75, 76, 77, 78, 79, 80, 81, 82, 83, 84, 85, 86, 87, 88, 89, 90, 91, 92, 93, 94, 95, 96, 97, 98, 99, 100, 101, 102, 103, 104, 105, 106, 107, 108, 109, 110, 111, 112, 113, 114, 115, 116, 117, 118, 119, 120, 121, 122, 123, 124, 125, 126, 127, 128, 129, 130, 131, 132, 133, 134, 135, 136, 137, 138, 139, 140, 141, 142, 143, 144, 145, 146, 147, 148, 149, 150, 151, 152, 153, 154, 155, 156, 157, 158, 159, 160, 161, 162, 163, 164, 165, 166, 167, 168, 169, 170, 171, 172, 173, 174, 175] (by decide +kernel) (by decide +kernel)) (goodIn_sub (fun _ h => List.mem_cons_of_mem _ (List.mem_append_right _ h)) (by decide +kernel))
set_option maxRecDepth 20000 in
theorem gL_wouldBe_X11_wouldBe : GoodIn wsL_wouldBe (wsV RL 84 RX11 yX11_wouldBe wsX11_wouldBe) := goodIn_app (goodIn_of _ (by decide +kernel)) ggL_wouldBe_X11_wouldBe
theorem dL_wouldBe_0 : decode cL_wouldBe 0 = .ok (.aload_n 2, 1) := by decide +kernel
theorem dL_wouldBe_1 : decode cL_wouldBe 1 = .ok (.iconst 0, 1) := by decide +kernel
theorem dL_wouldBe_2 : decode cL_wouldBe 2 = .ok (.aload_n 0, 1) := by decide +kernel
theorem dL_wouldBe_3 : decode cL_wouldBe 3 = .ok (.iload_n 1, 1) := by decide +kernel
theorem dL_wouldBe_4 : decode cL_wouldBe 4 = .ok (.invokevirtual 84, 3) := by decide +kernel
theorem dL_wouldBe_7 : decode cL_wouldBe 7 = .ok (.i2l, 1) := by decide +kernel
theorem dL_wouldBe_8 : decode cL_wouldBe 8 = .ok (.lastore, 1) := by decide +kernel
theorem dL_wouldBe_9 : decode cL_wouldBe 9 = .ok (.goto 6, 3) := by decide +kernel
theorem dL_wouldBe_12 : decode cL_wouldBe 12 = .ok (.astore_n 3, 1) := by decide +kernel
theorem dL_wouldBe_13 : decode cL_wouldBe 13 = .ok (.iconst 1, 1) := by decide +kernel
theorem dL_wouldBe_14 : decode cL_wouldBe 14 = .ok (.ireturn, 1) := by decide +kernel
theorem dL_wouldBe_15 : decode cL_wouldBe 15 = .ok (.iconst 0, 1) := by decide +kernel
theorem dL_wouldBe_16 : decode cL_wouldBe 16 = .ok (.ireturn, 1) := by decide +kernel
set_option maxRecDepth 20000 in
theorem ggL_neededMark_X11_neededMark : GoodIn wsL_neededMark wsX11_neededMark := goodIn_ca (goodIn_ca (goodIn_ca (goodIn_r _ [8, 9, 10, 11, 12, 13, 7, 14, 15, 16, 17, 18, 19, 20, 21, 22, 23, 24, 25, 26, 27, 28, 29, 30, 31, 32, 33, 34, 35, 36, 37, 38, 39, 40, 41, 42, 43, 44, 45, 46, 47, 48, 49, 50, 51, 52, 53, 54, 55, 56, 57, 58, 59, 60, 61, 62, 63, 64, 65, 66, 67, 68, 69, 70, 71, 72, 73, 74, 75, 76, 77, 78, 79, 80, 81, 82, 83, 84, 85, 86, 87, 88, 89, 90, 91, 92, 93, 94, 95, 96, 97, 98, 99, 100, 101, 102, 103, 104, 105, 106, 107, 108, 109, 110, 111, 112, 113, 114, 115, 116, 117, 118, 119] (by decide +kernel) (by decide +kernel)) (goodIn_sub (fun _ h => List.mem_cons_of_mem _ (List.mem_append_left _ (List.mem_append_left _ (List.mem_append_right _ h)))) (by decide +kernel))) (goodIn_sub (fun _ h => List.mem_cons_of_mem _ (List.mem_append_left _ (List.mem_append_right _ h))) (by decide +kernel))) (goodIn_sub (fun _ h => List.mem_cons_of_mem _ (List.mem_append_right _ h)) (by decide +kernel))
set_option maxRecDepth 20000 in
theorem gL_neededMark_X11_neededMark : GoodIn wsL_neededMark (wsV RL 87 RX11 yX11_neededMark wsX11_neededMark) := goodIn_app (goodIn_of _ (by decide +kernel)) ggL_neededMark_X11_neededMark
theorem dL_neededMark_0 : decode cL_neededMark 0 = .ok (.aload 4, 2) := by decide +kernel
theorem dL_neededMark_2 : decode cL_neededMark 2 = .ok (.iconst 0, 1) := by decide +kernel
theorem dL_neededMark_3 : decode cL_neededMark 3 = .ok (.aload_n 0, 1) := by decide +kernel
theorem dL_neededMark_4 : decode cL_neededMark 4 = .ok (.iload_n 1, 1) := by decide +kernel
theorem dL_neededMark_5 : decode cL_neededMark 5 = .ok (.iload_n 2, 1) := by decide +kernel
theorem dL_neededMark_6 : decode cL_neededMark 6 = .ok (.iload_n 3, 1) := by decide +kernel
theorem dL_neededMark_7 : decode cL_neededMark 7 = .ok (.invokevirtual 87, 3) := by decide +kernel
theorem dL_neededMark_10 : decode cL_neededMark 10 = .ok (.i2l, 1) := by decide +kernel
theorem dL_neededMark_11 : decode cL_neededMark 11 = .ok (.lastore, 1) := by decide +kernel
theorem dL_neededMark_12 : decode cL_neededMark 12 = .ok (.goto 15, 3) := by decide +kernel
theorem dL_neededMark_15 : decode cL_neededMark 15 = .ok (.astore 5, 2) := by decide +kernel
theorem dL_neededMark_17 : decode cL_neededMark 17 = .ok (.iconst 1, 1) := by decide +kernel
theorem dL_neededMark_18 : decode cL_neededMark 18 = .ok (.ireturn, 1) := by decide +kernel
theorem dL_neededMark_19 : decode cL_neededMark 19 = .ok (.astore 5, 2) := by decide +kernel
theorem dL_neededMark_21 : decode cL_neededMark 21 = .ok (.iconst 2, 1) := by decide +kernel
theorem dL_neededMark_22 : decode cL_neededMark 22 = .ok (.ireturn, 1) := by decide +kernel
theorem dL_neededMark_23 : decode cL_neededMark 23 = .ok (.astore 5, 2) := by decide +kernel
theorem dL_neededMark_25 : decode cL_neededMark 25 = .ok (.iconst 3, 1) := by decide +kernel
theorem dL_neededMark_26 : decode cL_neededMark 26 = .ok (.ireturn, 1) := by decide +kernel
theorem dL_neededMark_27 : decode cL_neededMark 27 = .ok (.iconst 0, 1) := by decide +kernel
theorem dL_neededMark_28 : decode cL_neededMark 28 = .ok (.ireturn, 1) := by decide +kernel
set_option maxRecDepth 20000 in
theorem ggL_type_X11_type : GoodIn wsL_type wsX11_type := goodIn_ca (goodIn_ca (goodIn_r _ [7, 8, 9, 10, 6, 11, 12, 13, 14, 15, 16, 17, 18, 19, 20, 21, 22, 23, 24, 25, 26, 27, 28, 29, 30, 31, 32, 33, 34, 35, 36] (by decide +kernel) (by decide +kernel)) (goodIn_sub (fun _ h => List.mem_cons_of_mem _ (List.mem_append_left _ (List.mem_append_right _ h))) (by decide +kernel))) (goodIn_sub (fun _ h => List.mem_cons_of_mem _ (List.mem_append_right _ h)) (by decide +kernel))
set_option maxRecDepth 20000 in
theorem gL_type_X11_type : GoodIn wsL_type (wsV RL 90 RX11 yX11_type wsX11_type) := goodIn_app (goodIn_of _ (by decide +kernel)) ggL_type_X11_type
theorem dL_type_0 : decode cL_type 0 = .ok (.aload_n 2, 1) := by decide +kernel
theorem dL_type_1 : decode cL_type 1 = .ok (.iconst 0, 1) := by decide +kernel
theorem dL_type_2 : decode cL_type 2 = .ok (.aload_n 0, 1) := by decide +kernel
theorem dL_type_3 : decode cL_type 3 = .ok (.iload_n 1, 1) := by decide +kernel
theorem dL_type_4 : decode cL_type 4 = .ok (.invokevirtual 90, 3) := by decide +kernel
theorem dL_type_7 : decode cL_type 7 = .ok (.i2l, 1) := by decide +kernel
theorem dL_type_8 : decode cL_type 8 = .ok (.lastore, 1) := by decide +kernel
theorem dL_type_9 : decode cL_type 9 = .ok (.goto 9, 3) := by decide +kernel
theorem dL_type_12 : decode cL_type 12 = .ok (.astore_n 3, 1) := by decide +kernel
theorem dL_type_13 : decode cL_type 13 = .ok (.iconst 1, 1) := by decide +kernel
theorem dL_type_14 : decode cL_type 14 = .ok (.ireturn, 1) := by decide +kernel
theorem dL_type_15 : decode cL_type 15 = .ok (.astore_n 3, 1) := by decide +kernel
theorem dL_type_16 : decode cL_type 16 = .ok (.iconst 2, 1) := by decide +kernel
theorem dL_type_17 : decode cL_type 17 = .ok (.ireturn, 1) := by decide +kernel
theorem dL_type_18 : decode cL_type 18 = .ok (.iconst 0, 1) := by decide +kernel
theorem dL_type_19 : decode cL_type 19 = .ok (.ireturn, 1) := by decide +kernel
set_option maxRecDepth 20000 in
theorem ggL_undo_X11_undo : GoodIn wsL_undo wsX11_undo := goodIn_ca (goodIn_r _ [6, 7, 8, 9, 10, 5, 11, 12, 13, 14, 15, 16, 17, 18, 19, 20, 21, 22, 23, 24, 25, 26, 27, 28, 29, 30, 31, 32, 33, 34, 35, 36, 37, 38, 39, 40, 41, 42, 43, 44, 45, 46, 47, 48, 49, 50, 51, 52, 53, 54, 55, 56, 57, 58, 59, 60, 61, 62, 63, 64, 65, 66, 67, 68, 69, 70, 71, 72, 73, 74, 75, 76, 77, 78, 79, 80, 81, 82, 83, 84, 85, 86, 87, 88, 89, 90, 91, 92, 93, 94, 95, 96, 97, 98, 99, 100, 101, 102, 103, 104, 105, 106, 107, 108, 109, 110, 111, 112, 113, 114, 115, 116, 117, 118, 119, 120, 121, 122, 123, 124, 125, 126, 127, 128, 129, 130, 131, 132, 133, 134, 135, 136, 137, 138, 139, 140, 141, 142, 143] (by decide +kernel) (by decide +kernel)) (goodIn_sub (fun _ h => List.mem_cons_of_mem _ (List.mem_append_right _ h)) (by decide +kernel))
set_option maxRecDepth 20000 in
theorem gL_undo_X11_undo : GoodIn wsL_undo (wsV RL 93 RX11 yX11_undo wsX11_undo) := goodIn_app (goodIn_of _ (by decide +kernel)) ggL_undo_X11_undo
theorem dL_undo_0 : decode cL_undo 0 = .ok (.aload_n 1, 1) := by decide +kernel
theorem dL_undo_1 : decode cL_undo 1 = .ok (.iconst 0, 1) := by decide +kernel
theorem dL_undo_2 : decode cL_undo 2 = .ok (.aload_n 0, 1) := by decide +kernel
theorem dL_undo_3 : decode cL_undo 3 = .ok (.invokevirtual 93, 3) := by decide +kernel
theorem dL_undo_6 : decode cL_undo 6 = .ok (.i2l, 1) := by decide +kernel
theorem dL_undo_7 : decode cL_undo 7 = .ok (.lastore, 1) := by decide +kernel
theorem dL_undo_8 : decode cL_undo 8 = .ok (.goto 6, 3) := by decide +kernel
theorem dL_undo_11 : decode cL_undo 11 = .ok (.astore_n 2, 1) := by decide +kernel
theorem dL_undo_12 : decode cL_undo 12 = .ok (.iconst 1, 1) := by decide +kernel
theorem dL_undo_13 : decode cL_undo 13 = .ok (.ireturn, 1) := by decide +kernel
theorem dL_undo_14 : decode cL_undo 14 = .ok (.iconst 0, 1) := by decide +kernel
theorem dL_undo_15 : decode cL_undo 15 = .ok (.ireturn, 1) := by decide +kernel
abbrev vwCl : List vw_C := [(RX0, TX0, 14), (RX1, TX1, 6), (RX2, TX2, 2), (RX3, TX3, 2), (RX4, TX4, 1), (RX5, TX5, 2), (RX6, TX6, 1), (RX7, TX7, 5), (RX8, TX8, 5), (RX9, TX9, 4), (RX10, TX10, 4), (RX11, TX11, 3), (RX12, TX12, 12)]
