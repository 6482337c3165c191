set_option maxRecDepth 20000 in
theorem ggX0_init_X10_init : GoodIn wsX0_init wsX10_init := goodIn_r _ [44, 45, 2, 3, 16, 46, 47, 48, 129, 130, 131, 132] (by decide +kernel) (by decide +kernel)
set_option maxRecDepth 20000 in
theorem gX0_init_X10_init_n23 : GoodIn wsX0_init (wsX10_init) := ggX0_init_X10_init
set_option maxRecDepth 20000 in
theorem ggX0_init_X2_init : GoodIn wsX0_init wsX2_init := goodIn_r _ [50, 51, 2, 3, 16, 52, 133, 134] (by decide +kernel) (by decide +kernel)
set_option maxRecDepth 20000 in
theorem gX0_init_X2_init_n30 : GoodIn wsX0_init (wsX2_init) := ggX0_init_X2_init
set_option maxRecDepth 20000 in
theorem ggX0_init_X4_init : GoodIn wsX0_init wsX4_init := goodIn_r _ [55, 56, 2, 3, 16, 57, 58, 59, 60, 61, 135] (by decide +kernel) (by decide +kernel)
set_option maxRecDepth 20000 in
theorem gX0_init_X4_init : GoodIn wsX0_init (wsX4_init) := ggX0_init_X4_init
set_option maxRecDepth 20000 in
theorem ggX0_init_X3_init : GoodIn wsX0_init wsX3_init := goodIn_r _ [63, 64, 2, 3, 65, 66, 16, 67, 136, 137] (by decide +kernel) (by decide +kernel)
set_option maxRecDepth 20000 in
theorem gX0_init_X3_init_n49 : GoodIn wsX0_init (wsX3_init) := ggX0_init_X3_init
set_option maxRecDepth 20000 in
theorem ggX0_init_X7_init : GoodIn wsX0_init wsX7_init := goodIn_r _ [70, 71, 2, 3, 16, 72, 73, 74, 75, 76, 28, 77, 78, 79, 80, 59, 60, 61, 138, 139, 140, 141, 142] (by decide +kernel) (by decide +kernel)
set_option maxRecDepth 20000 in
theorem gX0_init_X7_init : GoodIn wsX0_init (wsX7_init) := ggX0_init_X7_init
set_option maxRecDepth 20000 in
theorem ggX0_init_X6_init : GoodIn wsX0_init wsX6_init := goodIn_r _ [83, 84, 2, 3, 85, 16, 86, 87, 88, 89, 32, 90, 91, 59, 60, 61, 143] (by decide +kernel) (by decide +kernel)
set_option maxRecDepth 20000 in
theorem gX0_init_X6_init : GoodIn wsX0_init (wsX6_init) := ggX0_init_X6_init
set_option maxRecDepth 20000 in
theorem ggX0_init_X9_init : GoodIn wsX0_init wsX9_init := goodIn_r _ [93, 94, 2, 3, 16, 95, 96, 31, 32, 97, 98, 82, 83, 84, 85, 86, 87, 88, 89, 90, 91, 59, 60, 61, 144, 145, 146, 147, 143] (by decide +kernel) (by decide +kernel)
set_option maxRecDepth 20000 in
theorem gX0_init_X9_init_n70 : GoodIn wsX0_init (wsX9_init) := ggX0_init_X9_init
set_option maxRecDepth 20000 in
theorem ggX0_init_X1_init : GoodIn wsX0_init wsX1_init := goodIn_r _ [100, 101, 2, 3, 16, 102, 148, 149, 150, 151, 152, 153] (by decide +kernel) (by decide +kernel)
set_option maxRecDepth 20000 in
theorem gX0_init_X1_init_n80 : GoodIn wsX0_init (wsX1_init) := ggX0_init_X1_init
set_option maxRecDepth 20000 in
theorem ggX0_init_X11_copyRow : GoodIn wsX0_init wsX11_copyRow := goodIn_r _ [105, 106, 107, 108, 109, 110, 111, 112, 113] (by decide +kernel) (by decide +kernel)
set_option maxRecDepth 20000 in
theorem gX0_init_X11_copyRow_n89 : GoodIn wsX0_init (wsX11_copyRow) := ggX0_init_X11_copyRow
set_option maxRecDepth 20000 in
theorem ggX0_init_J7_fill_53178 : GoodIn wsX0_init wsJ7_fill_53178 := goodIn_r _ [61] (by decide +kernel) (by decide +kernel)
set_option maxRecDepth 20000 in
theorem gX0_init_J7_fill_53178 : GoodIn wsX0_init (va_wsS RX0 93 yJ7_fill_53178 wsJ7_fill_53178) := goodIn_app (goodIn_of _ (by decide +kernel)) ggX0_init_J7_fill_53178
theorem dX0_init_0 : decode cX0_init 0 = .ok (.aload_n 0, 1) := by decide +kernel
theorem dX0_init_1 : decode cX0_init 1 = .ok (.invokespecial 3, 3) := by decide +kernel
theorem dX0_init_4 : decode cX0_init 4 = .ok (.aload_n 0, 1) := by decide +kernel
theorem dX0_init_5 : decode cX0_init 5 = .ok (.iconst 0, 1) := by decide +kernel
theorem dX0_init_6 : decode cX0_init 6 = .ok (.putfield 9, 3) := by decide +kernel
theorem dX0_init_9 : decode cX0_init 9 = .ok (.aload_n 0, 1) := by decide +kernel
theorem dX0_init_10 : decode cX0_init 10 = .ok (.iconst 1, 1) := by decide +kernel
theorem dX0_init_11 : decode cX0_init 11 = .ok (.putfield 15, 3) := by decide +kernel
theorem dX0_init_14 : decode cX0_init 14 = .ok (.aload_n 0, 1) := by decide +kernel
theorem dX0_init_15 : decode cX0_init 15 = .ok (.bipush 50, 2) := by decide +kernel
theorem dX0_init_17 : decode cX0_init 17 = .ok (.putfield 18, 3) := by decide +kernel
theorem dX0_init_20 : decode cX0_init 20 = .ok (.aload_n 0, 1) := by decide +kernel
theorem dX0_init_21 : decode cX0_init 21 = .ok (.new 21, 3) := by decide +kernel
theorem dX0_init_24 : decode cX0_init 24 = .ok (.dup, 1) := by decide +kernel
theorem dX0_init_25 : decode cX0_init 25 = .ok (.invokespecial 23, 3) := by decide +kernel
theorem dX0_init_28 : decode cX0_init 28 = .ok (.putfield 24, 3) := by decide +kernel
theorem dX0_init_31 : decode cX0_init 31 = .ok (.aload_n 0, 1) := by decide +kernel
theorem dX0_init_32 : decode cX0_init 32 = .ok (.new 28, 3) := by decide +kernel
theorem dX0_init_35 : decode cX0_init 35 = .ok (.dup, 1) := by decide +kernel
theorem dX0_init_36 : decode cX0_init 36 = .ok (.invokespecial 30, 3) := by decide +kernel
theorem dX0_init_39 : decode cX0_init 39 = .ok (.putfield 31, 3) := by decide +kernel
theorem dX0_init_42 : decode cX0_init 42 = .ok (.aload_n 0, 1) := by decide +kernel
theorem dX0_init_43 : decode cX0_init 43 = .ok (.iconst 4, 1) := by decide +kernel
theorem dX0_init_44 : decode cX0_init 44 = .ok (.bipush 6, 2) := by decide +kernel
theorem dX0_init_46 : decode cX0_init 46 = .ok (.multianewarray 35 2, 4) := by decide +kernel
theorem dX0_init_50 : decode cX0_init 50 = .ok (.putfield 37, 3) := by decide +kernel
theorem dX0_init_53 : decode cX0_init 53 = .ok (.aload_n 0, 1) := by decide +kernel
theorem dX0_init_54 : decode cX0_init 54 = .ok (.new 40, 3) := by decide +kernel
theorem dX0_init_57 : decode cX0_init 57 = .ok (.dup, 1) := by decide +kernel
theorem dX0_init_58 : decode cX0_init 58 = .ok (.invokespecial 42, 3) := by decide +kernel
theorem dX0_init_61 : decode cX0_init 61 = .ok (.putfield 43, 3) := by decide +kernel
theorem dX0_init_64 : decode cX0_init 64 = .ok (.aload_n 0, 1) := by decide +kernel
theorem dX0_init_65 : decode cX0_init 65 = .ok (.new 47, 3) := by decide +kernel
theorem dX0_init_68 : decode cX0_init 68 = .ok (.dup, 1) := by decide +kernel
theorem dX0_init_69 : decode cX0_init 69 = .ok (.invokespecial 49, 3) := by decide +kernel
theorem dX0_init_72 : decode cX0_init 72 = .ok (.putfield 50, 3) := by decide +kernel
theorem dX0_init_75 : decode cX0_init 75 = .ok (.aload_n 0, 1) := by decide +kernel
theorem dX0_init_76 : decode cX0_init 76 = .ok (.new 54, 3) := by decide +kernel
theorem dX0_init_79 : decode cX0_init 79 = .ok (.dup, 1) := by decide +kernel
theorem dX0_init_80 : decode cX0_init 80 = .ok (.invokespecial 56, 3) := by decide +kernel
theorem dX0_init_83 : decode cX0_init 83 = .ok (.putfield 57, 3) := by decide +kernel
theorem dX0_init_86 : decode cX0_init 86 = .ok (.aload_n 0, 1) := by decide +kernel
theorem dX0_init_87 : decode cX0_init 87 = .ok (.new 61, 3) := by decide +kernel
theorem dX0_init_90 : decode cX0_init 90 = .ok (.dup, 1) := by decide +kernel
theorem dX0_init_91 : decode cX0_init 91 = .ok (.invokespecial 63, 3) := by decide +kernel
theorem dX0_init_94 : decode cX0_init 94 = .ok (.putfield 64, 3) := by decide +kernel
theorem dX0_init_97 : decode cX0_init 97 = .ok (.aload_n 0, 1) := by decide +kernel
theorem dX0_init_98 : decode cX0_init 98 = .ok (.new 68, 3) := by decide +kernel
theorem dX0_init_101 : decode cX0_init 101 = .ok (.dup, 1) := by decide +kernel
theorem dX0_init_102 : decode cX0_init 102 = .ok (.invokespecial 70, 3) := by decide +kernel
theorem dX0_init_105 : decode cX0_init 105 = .ok (.putfield 71, 3) := by decide +kernel
theorem dX0_init_108 : decode cX0_init 108 = .ok (.aload_n 0, 1) := by decide +kernel
theorem dX0_init_109 : decode cX0_init 109 = .ok (.iconst 4, 1) := by decide +kernel
theorem dX0_init_110 : decode cX0_init 110 = .ok (.bipush 12, 2) := by decide +kernel
theorem dX0_init_112 : decode cX0_init 112 = .ok (.multianewarray 35 2, 4) := by decide +kernel
theorem dX0_init_116 : decode cX0_init 116 = .ok (.putfield 75, 3) := by decide +kernel
theorem dX0_init_119 : decode cX0_init 119 = .ok (.aload_n 0, 1) := by decide +kernel
theorem dX0_init_120 : decode cX0_init 120 = .ok (.new 78, 3) := by decide +kernel
theorem dX0_init_123 : decode cX0_init 123 = .ok (.dup, 1) := by decide +kernel
theorem dX0_init_124 : decode cX0_init 124 = .ok (.invokespecial 80, 3) := by decide +kernel
theorem dX0_init_127 : decode cX0_init 127 = .ok (.putfield 81, 3) := by decide +kernel
theorem dX0_init_130 : decode cX0_init 130 = .ok (.iconst 0, 1) := by decide +kernel
theorem dX0_init_131 : decode cX0_init 131 = .ok (.istore_n 1, 1) := by decide +kernel
theorem dX0_init_132 : decode cX0_init 132 = .ok (.iload_n 1, 1) := by decide +kernel
theorem dX0_init_133 : decode cX0_init 133 = .ok (.iconst 4, 1) := by decide +kernel
theorem dX0_init_134 : decode cX0_init 134 = .ok (.if_icmp .ge 31, 3) := by decide +kernel
theorem dX0_init_137 : decode cX0_init 137 = .ok (.getstatic 85, 3) := by decide +kernel
theorem dX0_init_140 : decode cX0_init 140 = .ok (.aload_n 0, 1) := by decide +kernel
theorem dX0_init_141 : decode cX0_init 141 = .ok (.getfield 37, 3) := by decide +kernel
theorem dX0_init_144 : decode cX0_init 144 = .ok (.iload_n 1, 1) := by decide +kernel
theorem dX0_init_145 : decode cX0_init 145 = .ok (.aaload, 1) := by decide +kernel
theorem dX0_init_146 : decode cX0_init 146 = .ok (.invokestatic 89, 3) := by decide +kernel
theorem dX0_init_149 : decode cX0_init 149 = .ok (.aload_n 0, 1) := by decide +kernel
theorem dX0_init_150 : decode cX0_init 150 = .ok (.getfield 75, 3) := by decide +kernel
theorem dX0_init_153 : decode cX0_init 153 = .ok (.iload_n 1, 1) := by decide +kernel
theorem dX0_init_154 : decode cX0_init 154 = .ok (.aaload, 1) := by decide +kernel
theorem dX0_init_155 : decode cX0_init 155 = .ok (.iconst (-1), 1) := by decide +kernel
theorem dX0_init_156 : decode cX0_init 156 = .ok (.invokestatic 93, 3) := by decide +kernel
theorem dX0_init_159 : decode cX0_init 159 = .ok (.iinc 1 1, 3) := by decide +kernel
theorem dX0_init_162 : decode cX0_init 162 = .ok (.goto (-30), 3) := by decide +kernel
theorem dX0_init_165 : decode cX0_init 165 = .ok (.return_, 1) := by decide +kernel
set_option maxRecDepth 20000 in
theorem ggX0_copyFrom_X10_copyFrom : GoodIn wsX0_copyFrom wsX10_copyFrom := goodIn_r _ [18, 19, 20, 21, 22, 23, 24, 25, 26, 27, 28, 29, 30, 31, 32, 33, 96, 97, 98, 99] (by decide +kernel) (by decide +kernel)
set_option maxRecDepth 20000 in
theorem gX0_copyFrom_X10_copyFrom : GoodIn wsX0_copyFrom (wsV RX0 102 RX10 yX10_copyFrom wsX10_copyFrom) := goodIn_app (goodIn_of _ (by decide +kernel)) ggX0_copyFrom_X10_copyFrom
set_option maxRecDepth 20000 in
theorem ggX0_copyFrom_X2_copyFrom : GoodIn wsX0_copyFrom wsX2_copyFrom := goodIn_r _ [38, 39, 40, 23, 24, 25, 26, 27, 28, 29, 30, 31, 32, 33, 100, 101] (by decide +kernel) (by decide +kernel)
set_option maxRecDepth 20000 in
theorem gX0_copyFrom_X2_copyFrom : GoodIn wsX0_copyFrom (wsV RX0 106 RX2 yX2_copyFrom wsX2_copyFrom) := goodIn_app (goodIn_of _ (by decide +kernel)) ggX0_copyFrom_X2_copyFrom
set_option maxRecDepth 20000 in
theorem ggX0_copyFrom_X11_copyRows : GoodIn wsX0_copyFrom wsX11_copyRows := goodIn_r _ [42, 26, 27, 28, 29, 30, 31, 32, 33] (by decide +kernel) (by decide +kernel)
set_option maxRecDepth 20000 in
theorem gX0_copyFrom_X11_copyRows_n109 : GoodIn wsX0_copyFrom (wsX11_copyRows) := ggX0_copyFrom_X11_copyRows
set_option maxRecDepth 20000 in
theorem ggX0_copyFrom_X4_copyFrom : GoodIn wsX0_copyFrom wsX4_copyFrom := goodIn_r _ [47, 48, 23, 24, 25, 26, 27, 28, 29, 30, 31, 32, 33, 102] (by decide +kernel) (by decide +kernel)
set_option maxRecDepth 20000 in
theorem gX0_copyFrom_X4_copyFrom : GoodIn wsX0_copyFrom (wsV RX0 113 RX4 yX4_copyFrom wsX4_copyFrom) := goodIn_app (goodIn_of _ (by decide +kernel)) ggX0_copyFrom_X4_copyFrom
set_option maxRecDepth 20000 in
theorem ggX0_copyFrom_X3_copyFrom : GoodIn wsX0_copyFrom wsX3_copyFrom := goodIn_r _ [53, 54, 55, 41, 24, 42, 26, 27, 28, 29, 30, 31, 32, 33, 103, 104] (by decide +kernel) (by decide +kernel)
set_option maxRecDepth 20000 in
theorem gX0_copyFrom_X3_copyFrom : GoodIn wsX0_copyFrom (wsV RX0 116 RX3 yX3_copyFrom wsX3_copyFrom) := goodIn_app (goodIn_of _ (by decide +kernel)) ggX0_copyFrom_X3_copyFrom
set_option maxRecDepth 20000 in
theorem ggX0_copyFrom_X7_copyFrom : GoodIn wsX0_copyFrom wsX7_copyFrom := goodIn_r _ [60, 61, 62, 63, 64, 65, 23, 24, 25, 26, 27, 28, 29, 30, 31, 32, 33, 105, 106, 107, 108, 109] (by decide +kernel) (by decide +kernel)
set_option maxRecDepth 20000 in
theorem gX0_copyFrom_X7_copyFrom : GoodIn wsX0_copyFrom (wsV RX0 119 RX7 yX7_copyFrom wsX7_copyFrom) := goodIn_app (goodIn_of _ (by decide +kernel)) ggX0_copyFrom_X7_copyFrom
set_option maxRecDepth 20000 in
theorem ggX0_copyFrom_X6_copyFrom : GoodIn wsX0_copyFrom wsX6_copyFrom := goodIn_r _ [70, 71, 41, 24, 42, 26, 27, 28, 29, 30, 31, 32, 33, 110] (by decide +kernel) (by decide +kernel)
set_option maxRecDepth 20000 in
theorem gX0_copyFrom_X6_copyFrom : GoodIn wsX0_copyFrom (wsV RX0 122 RX6 yX6_copyFrom wsX6_copyFrom) := goodIn_app (goodIn_of _ (by decide +kernel)) ggX0_copyFrom_X6_copyFrom
set_option maxRecDepth 20000 in
theorem ggX0_copyFrom_X9_copyFrom : GoodIn wsX0_copyFrom wsX9_copyFrom := goodIn_r _ [76, 77, 78, 79, 80, 23, 24, 25, 26, 27, 28, 29, 30, 31, 32, 33, 81, 67, 68, 69, 70, 71, 41, 42, 111, 112, 113, 114, 110] (by decide +kernel) (by decide +kernel)
set_option maxRecDepth 20000 in
theorem gX0_copyFrom_X9_copyFrom : GoodIn wsX0_copyFrom (wsV RX0 125 RX9 yX9_copyFrom wsX9_copyFrom) := goodIn_app (goodIn_of _ (by decide +kernel)) ggX0_copyFrom_X9_copyFrom
theorem dX0_copyFrom_0 : decode cX0_copyFrom 0 = .ok (.aload_n 0, 1) := by decide +kernel
theorem dX0_copyFrom_1 : decode cX0_copyFrom 1 = .ok (.aload_n 1, 1) := by decide +kernel
theorem dX0_copyFrom_2 : decode cX0_copyFrom 2 = .ok (.getfield 9, 3) := by decide +kernel
theorem dX0_copyFrom_5 : decode cX0_copyFrom 5 = .ok (.putfield 9, 3) := by decide +kernel
theorem dX0_copyFrom_8 : decode cX0_copyFrom 8 = .ok (.aload_n 0, 1) := by decide +kernel
theorem dX0_copyFrom_9 : decode cX0_copyFrom 9 = .ok (.aload_n 1, 1) := by decide +kernel
theorem dX0_copyFrom_10 : decode cX0_copyFrom 10 = .ok (.getfield 99, 3) := by decide +kernel
theorem dX0_copyFrom_13 : decode cX0_copyFrom 13 = .ok (.putfield 99, 3) := by decide +kernel
theorem dX0_copyFrom_16 : decode cX0_copyFrom 16 = .ok (.aload_n 0, 1) := by decide +kernel
theorem dX0_copyFrom_17 : decode cX0_copyFrom 17 = .ok (.aload_n 1, 1) := by decide +kernel
theorem dX0_copyFrom_18 : decode cX0_copyFrom 18 = .ok (.getfield 15, 3) := by decide +kernel
theorem dX0_copyFrom_21 : decode cX0_copyFrom 21 = .ok (.putfield 15, 3) := by decide +kernel
theorem dX0_copyFrom_24 : decode cX0_copyFrom 24 = .ok (.aload_n 0, 1) := by decide +kernel
theorem dX0_copyFrom_25 : decode cX0_copyFrom 25 = .ok (.aload_n 1, 1) := by decide +kernel
theorem dX0_copyFrom_26 : decode cX0_copyFrom 26 = .ok (.getfield 18, 3) := by decide +kernel
theorem dX0_copyFrom_29 : decode cX0_copyFrom 29 = .ok (.putfield 18, 3) := by decide +kernel
theorem dX0_copyFrom_32 : decode cX0_copyFrom 32 = .ok (.aload_n 0, 1) := by decide +kernel
theorem dX0_copyFrom_33 : decode cX0_copyFrom 33 = .ok (.getfield 24, 3) := by decide +kernel
theorem dX0_copyFrom_36 : decode cX0_copyFrom 36 = .ok (.aload_n 1, 1) := by decide +kernel
theorem dX0_copyFrom_37 : decode cX0_copyFrom 37 = .ok (.getfield 24, 3) := by decide +kernel
theorem dX0_copyFrom_40 : decode cX0_copyFrom 40 = .ok (.invokevirtual 102, 3) := by decide +kernel
theorem dX0_copyFrom_43 : decode cX0_copyFrom 43 = .ok (.aload_n 0, 1) := by decide +kernel
theorem dX0_copyFrom_44 : decode cX0_copyFrom 44 = .ok (.getfield 31, 3) := by decide +kernel
theorem dX0_copyFrom_47 : decode cX0_copyFrom 47 = .ok (.aload_n 1, 1) := by decide +kernel
theorem dX0_copyFrom_48 : decode cX0_copyFrom 48 = .ok (.getfield 31, 3) := by decide +kernel
theorem dX0_copyFrom_51 : decode cX0_copyFrom 51 = .ok (.invokevirtual 106, 3) := by decide +kernel
theorem dX0_copyFrom_54 : decode cX0_copyFrom 54 = .ok (.aload_n 1, 1) := by decide +kernel
theorem dX0_copyFrom_55 : decode cX0_copyFrom 55 = .ok (.getfield 37, 3) := by decide +kernel
theorem dX0_copyFrom_58 : decode cX0_copyFrom 58 = .ok (.aload_n 0, 1) := by decide +kernel
theorem dX0_copyFrom_59 : decode cX0_copyFrom 59 = .ok (.getfield 37, 3) := by decide +kernel
theorem dX0_copyFrom_62 : decode cX0_copyFrom 62 = .ok (.invokestatic 109, 3) := by decide +kernel
theorem dX0_copyFrom_65 : decode cX0_copyFrom 65 = .ok (.aload_n 0, 1) := by decide +kernel
theorem dX0_copyFrom_66 : decode cX0_copyFrom 66 = .ok (.getfield 43, 3) := by decide +kernel
theorem dX0_copyFrom_69 : decode cX0_copyFrom 69 = .ok (.aload_n 1, 1) := by decide +kernel
theorem dX0_copyFrom_70 : decode cX0_copyFrom 70 = .ok (.getfield 43, 3) := by decide +kernel
theorem dX0_copyFrom_73 : decode cX0_copyFrom 73 = .ok (.invokevirtual 113, 3) := by decide +kernel
theorem dX0_copyFrom_76 : decode cX0_copyFrom 76 = .ok (.aload_n 0, 1) := by decide +kernel
theorem dX0_copyFrom_77 : decode cX0_copyFrom 77 = .ok (.getfield 50, 3) := by decide +kernel
theorem dX0_copyFrom_80 : decode cX0_copyFrom 80 = .ok (.aload_n 1, 1) := by decide +kernel
theorem dX0_copyFrom_81 : decode cX0_copyFrom 81 = .ok (.getfield 50, 3) := by decide +kernel
theorem dX0_copyFrom_84 : decode cX0_copyFrom 84 = .ok (.invokevirtual 116, 3) := by decide +kernel
theorem dX0_copyFrom_87 : decode cX0_copyFrom 87 = .ok (.aload_n 0, 1) := by decide +kernel
theorem dX0_copyFrom_88 : decode cX0_copyFrom 88 = .ok (.getfield 57, 3) := by decide +kernel
theorem dX0_copyFrom_91 : decode cX0_copyFrom 91 = .ok (.aload_n 1, 1) := by decide +kernel
theorem dX0_copyFrom_92 : decode cX0_copyFrom 92 = .ok (.getfield 57, 3) := by decide +kernel
theorem dX0_copyFrom_95 : decode cX0_copyFrom 95 = .ok (.invokevirtual 119, 3) := by decide +kernel
theorem dX0_copyFrom_98 : decode cX0_copyFrom 98 = .ok (.aload_n 0, 1) := by decide +kernel
theorem dX0_copyFrom_99 : decode cX0_copyFrom 99 = .ok (.getfield 64, 3) := by decide +kernel
theorem dX0_copyFrom_102 : decode cX0_copyFrom 102 = .ok (.aload_n 1, 1) := by decide +kernel
theorem dX0_copyFrom_103 : decode cX0_copyFrom 103 = .ok (.getfield 64, 3) := by decide +kernel
theorem dX0_copyFrom_106 : decode cX0_copyFrom 106 = .ok (.invokevirtual 122, 3) := by decide +kernel
theorem dX0_copyFrom_109 : decode cX0_copyFrom 109 = .ok (.aload_n 0, 1) := by decide +kernel
theorem dX0_copyFrom_110 : decode cX0_copyFrom 110 = .ok (.getfield 71, 3) := by decide +kernel
theorem dX0_copyFrom_113 : decode cX0_copyFrom 113 = .ok (.aload_n 1, 1) := by decide +kernel
theorem dX0_copyFrom_114 : decode cX0_copyFrom 114 = .ok (.getfield 71, 3) := by decide +kernel
theorem dX0_copyFrom_117 : decode cX0_copyFrom 117 = .ok (.invokevirtual 125, 3) := by decide +kernel
theorem dX0_copyFrom_120 : decode cX0_copyFrom 120 = .ok (.aload_n 1, 1) := by decide +kernel
theorem dX0_copyFrom_121 : decode cX0_copyFrom 121 = .ok (.getfield 75, 3) := by decide +kernel
theorem dX0_copyFrom_124 : decode cX0_copyFrom 124 = .ok (.aload_n 0, 1) := by decide +kernel
theorem dX0_copyFrom_125 : decode cX0_copyFrom 125 = .ok (.getfield 75, 3) := by decide +kernel
theorem dX0_copyFrom_128 : decode cX0_copyFrom 128 = .ok (.invokestatic 109, 3) := by decide +kernel
theorem dX0_copyFrom_131 : decode cX0_copyFrom 131 = .ok (.return_, 1) := by decide +kernel
theorem dX0_change_0 : decode cX0_change 0 = .ok (.iload_n 1, 1) := by decide +kernel
theorem dX0_change_1 : decode cX0_change 1 = .ok (.lookupswitch 46 #[(0, 27), (1, 38)], 27) := by decide +kernel
theorem dX0_change_28 : decode cX0_change 28 = .ok (.aload_n 0, 1) := by decide +kernel
theorem dX0_change_29 : decode cX0_change 29 = .ok (.getfield 50, 3) := by decide +kernel
theorem dX0_change_32 : decode cX0_change 32 = .ok (.iload_n 2, 1) := by decide +kernel
theorem dX0_change_33 : decode cX0_change 33 = .ok (.putfield 128, 3) := by decide +kernel
theorem dX0_change_36 : decode cX0_change 36 = .ok (.goto 16, 3) := by decide +kernel
theorem dX0_change_39 : decode cX0_change 39 = .ok (.aload_n 0, 1) := by decide +kernel
theorem dX0_change_40 : decode cX0_change 40 = .ok (.iload_n 2, 1) := by decide +kernel
theorem dX0_change_41 : decode cX0_change 41 = .ok (.putfield 15, 3) := by decide +kernel
theorem dX0_change_44 : decode cX0_change 44 = .ok (.goto 8, 3) := by decide +kernel
theorem dX0_change_47 : decode cX0_change 47 = .ok (.aload_n 0, 1) := by decide +kernel
theorem dX0_change_48 : decode cX0_change 48 = .ok (.iload_n 2, 1) := by decide +kernel
theorem dX0_change_49 : decode cX0_change 49 = .ok (.putfield 18, 3) := by decide +kernel
theorem dX0_change_52 : decode cX0_change 52 = .ok (.return_, 1) := by decide +kernel
set_option maxRecDepth 20000 in
theorem ggX0_tell_X2_countIn : GoodIn wsX0_tell wsX2_countIn := goodIn_r _ [14, 15, 16, 17, 18, 13, 19, 20, 21, 22, 23, 24, 51, 52] (by decide +kernel) (by decide +kernel)
set_option maxRecDepth 20000 in
theorem gX0_tell_X2_countIn : GoodIn wsX0_tell (wsV RX0 135 RX2 yX2_countIn wsX2_countIn) := goodIn_app (goodIn_of _ (by decide +kernel)) ggX0_tell_X2_countIn
set_option maxRecDepth 20000 in
theorem ggX0_tell_X9_count : GoodIn wsX0_tell wsX9_count := goodIn_r _ [29, 30, 58, 59, 60, 61] (by decide +kernel) (by decide +kernel)
set_option maxRecDepth 20000 in
theorem gX0_tell_X9_count : GoodIn wsX0_tell (wsV RX0 145 RX9 yX9_count wsX9_count) := goodIn_app (goodIn_of _ (by decide +kernel)) ggX0_tell_X9_count
theorem dX0_tell_0 : decode cX0_tell 0 = .ok (.iload_n 1, 1) := by decide +kernel
theorem dX0_tell_1 : decode cX0_tell 1 = .ok (.tableswitch 147 0 11 #[63, 71, 76, 81, 86, 91, 99, 107, 115, 123, 131, 139], 63) := by decide +kernel
theorem dX0_tell_64 : decode cX0_tell 64 = .ok (.aload_n 0, 1) := by decide +kernel
theorem dX0_tell_65 : decode cX0_tell 65 = .ok (.getfield 50, 3) := by decide +kernel
theorem dX0_tell_68 : decode cX0_tell 68 = .ok (.getfield 128, 3) := by decide +kernel
theorem dX0_tell_71 : decode cX0_tell 71 = .ok (.ireturn, 1) := by decide +kernel
theorem dX0_tell_72 : decode cX0_tell 72 = .ok (.aload_n 0, 1) := by decide +kernel
theorem dX0_tell_73 : decode cX0_tell 73 = .ok (.getfield 15, 3) := by decide +kernel
theorem dX0_tell_76 : decode cX0_tell 76 = .ok (.ireturn, 1) := by decide +kernel
theorem dX0_tell_77 : decode cX0_tell 77 = .ok (.aload_n 0, 1) := by decide +kernel
theorem dX0_tell_78 : decode cX0_tell 78 = .ok (.getfield 18, 3) := by decide +kernel
theorem dX0_tell_81 : decode cX0_tell 81 = .ok (.ireturn, 1) := by decide +kernel
theorem dX0_tell_82 : decode cX0_tell 82 = .ok (.aload_n 0, 1) := by decide +kernel
theorem dX0_tell_83 : decode cX0_tell 83 = .ok (.getfield 9, 3) := by decide +kernel
theorem dX0_tell_86 : decode cX0_tell 86 = .ok (.ireturn, 1) := by decide +kernel
theorem dX0_tell_87 : decode cX0_tell 87 = .ok (.aload_n 0, 1) := by decide +kernel
theorem dX0_tell_88 : decode cX0_tell 88 = .ok (.getfield 99, 3) := by decide +kernel
theorem dX0_tell_91 : decode cX0_tell 91 = .ok (.ireturn, 1) := by decide +kernel
theorem dX0_tell_92 : decode cX0_tell 92 = .ok (.aload_n 0, 1) := by decide +kernel
theorem dX0_tell_93 : decode cX0_tell 93 = .ok (.getfield 24, 3) := by decide +kernel
theorem dX0_tell_96 : decode cX0_tell 96 = .ok (.getfield 131, 3) := by decide +kernel
theorem dX0_tell_99 : decode cX0_tell 99 = .ok (.ireturn, 1) := by decide +kernel
theorem dX0_tell_100 : decode cX0_tell 100 = .ok (.aload_n 0, 1) := by decide +kernel
theorem dX0_tell_101 : decode cX0_tell 101 = .ok (.getfield 31, 3) := by decide +kernel
theorem dX0_tell_104 : decode cX0_tell 104 = .ok (.getfield 134, 3) := by decide +kernel
theorem dX0_tell_107 : decode cX0_tell 107 = .ok (.ireturn, 1) := by decide +kernel
theorem dX0_tell_108 : decode cX0_tell 108 = .ok (.aload_n 0, 1) := by decide +kernel
theorem dX0_tell_109 : decode cX0_tell 109 = .ok (.getfield 31, 3) := by decide +kernel
theorem dX0_tell_112 : decode cX0_tell 112 = .ok (.invokevirtual 135, 3) := by decide +kernel
theorem dX0_tell_115 : decode cX0_tell 115 = .ok (.ireturn, 1) := by decide +kernel
theorem dX0_tell_116 : decode cX0_tell 116 = .ok (.aload_n 0, 1) := by decide +kernel
theorem dX0_tell_117 : decode cX0_tell 117 = .ok (.getfield 57, 3) := by decide +kernel
theorem dX0_tell_120 : decode cX0_tell 120 = .ok (.getfield 139, 3) := by decide +kernel
theorem dX0_tell_123 : decode cX0_tell 123 = .ok (.ireturn, 1) := by decide +kernel
theorem dX0_tell_124 : decode cX0_tell 124 = .ok (.aload_n 0, 1) := by decide +kernel
theorem dX0_tell_125 : decode cX0_tell 125 = .ok (.getfield 57, 3) := by decide +kernel
theorem dX0_tell_128 : decode cX0_tell 128 = .ok (.getfield 142, 3) := by decide +kernel
theorem dX0_tell_131 : decode cX0_tell 131 = .ok (.ireturn, 1) := by decide +kernel
theorem dX0_tell_132 : decode cX0_tell 132 = .ok (.aload_n 0, 1) := by decide +kernel
theorem dX0_tell_133 : decode cX0_tell 133 = .ok (.getfield 71, 3) := by decide +kernel
theorem dX0_tell_136 : decode cX0_tell 136 = .ok (.invokevirtual 145, 3) := by decide +kernel
theorem dX0_tell_139 : decode cX0_tell 139 = .ok (.ireturn, 1) := by decide +kernel
theorem dX0_tell_140 : decode cX0_tell 140 = .ok (.aload_n 0, 1) := by decide +kernel
theorem dX0_tell_141 : decode cX0_tell 141 = .ok (.getfield 71, 3) := by decide +kernel
theorem dX0_tell_144 : decode cX0_tell 144 = .ok (.getfield 147, 3) := by decide +kernel
theorem dX0_tell_147 : decode cX0_tell 147 = .ok (.ireturn, 1) := by decide +kernel
theorem dX0_tell_148 : decode cX0_tell 148 = .ok (.aload_n 0, 1) := by decide +kernel
theorem dX0_tell_149 : decode cX0_tell 149 = .ok (.getfield 71, 3) := by decide +kernel
theorem dX0_tell_152 : decode cX0_tell 152 = .ok (.getfield 150, 3) := by decide +kernel
theorem dX0_tell_155 : decode cX0_tell 155 = .ok (.ireturn, 1) := by decide +kernel
set_option maxRecDepth 20000 in
theorem ggX0_tellOfEntrant_X2_isIn : GoodIn wsX0_tellOfEntrant wsX2_isIn := goodIn_r _ [9, 10, 11, 12, 13, 8, 14, 15, 130, 131] (by decide +kernel) (by decide +kernel)
set_option maxRecDepth 20000 in
theorem gX0_tellOfEntrant_X2_isIn : GoodIn wsX0_tellOfEntrant (wsV RX0 153 RX2 yX2_isIn wsX2_isIn) := goodIn_app (goodIn_of _ (by decide +kernel)) ggX0_tellOfEntrant_X2_isIn
set_option maxRecDepth 20000 in
theorem ggX0_tellOfEntrant_X7_placeOf : GoodIn wsX0_tellOfEntrant wsX7_placeOf := goodIn_r _ [20, 21, 22, 23, 24, 19, 25, 26, 132, 133, 134, 135, 136] (by decide +kernel) (by decide +kernel)
set_option maxRecDepth 20000 in
theorem gX0_tellOfEntrant_X7_placeOf : GoodIn wsX0_tellOfEntrant (wsV RX0 157 RX7 yX7_placeOf wsX7_placeOf) := goodIn_app (goodIn_of _ (by decide +kernel)) ggX0_tellOfEntrant_X7_placeOf
set_option maxRecDepth 20000 in
theorem ggX0_tellOfEntrant_X7_slipsOf : GoodIn wsX0_tellOfEntrant wsX7_slipsOf := goodIn_r _ [30, 31, 32, 33, 34, 132, 133, 134, 135, 136] (by decide +kernel) (by decide +kernel)
set_option maxRecDepth 20000 in
theorem gX0_tellOfEntrant_X7_slipsOf : GoodIn wsX0_tellOfEntrant (wsV RX0 161 RX7 yX7_slipsOf wsX7_slipsOf) := goodIn_app (goodIn_of _ (by decide +kernel)) ggX0_tellOfEntrant_X7_slipsOf
set_option maxRecDepth 20000 in
theorem ggX0_tellOfEntrant_X0_countedMarks : GoodIn wsX0_tellOfEntrant wsX0_countedMarks := goodIn_r _ [39, 4, 40, 41, 42, 38, 43, 44, 3, 45, 46, 47, 48, 49, 50, 51, 52, 53, 54, 55, 56, 57, 58, 59, 60, 61, 62, 63, 64, 65, 66, 112, 113, 114, 115, 116, 117, 118, 119, 120, 121, 122, 123, 124, 125, 126, 127, 128, 129, 137, 138, 139] (by decide +kernel) (by decide +kernel)
set_option maxRecDepth 20000 in
theorem gX0_tellOfEntrant_X0_countedMarks : GoodIn wsX0_tellOfEntrant (wsV RX0 164 RX0 yX0_countedMarks wsX0_countedMarks) := goodIn_app (goodIn_of _ (by decide +kernel)) ggX0_tellOfEntrant_X0_countedMarks
set_option maxRecDepth 20000 in
theorem ggX0_tellOfEntrant_X0_scoreOf : GoodIn wsX0_tellOfEntrant wsX0_scoreOf := goodIn_r _ [70, 71, 72, 73, 38, 74, 4, 45, 2, 75, 76, 77, 78, 79, 80, 81, 82, 49, 83, 51, 84, 85, 86, 87, 56, 57, 58, 59, 60, 61, 62, 63, 64, 65, 66, 27, 28, 29, 19, 30, 31, 32, 33, 34, 112, 113, 114, 115, 116, 117, 118, 119, 120, 121, 122, 123, 124, 125, 137, 138, 139, 132, 133, 134, 135, 136] (by decide +kernel) (by decide +kernel)
set_option maxRecDepth 20000 in
theorem gX0_tellOfEntrant_X0_scoreOf : GoodIn wsX0_tellOfEntrant (wsV RX0 167 RX0 yX0_scoreOf wsX0_scoreOf) := goodIn_app (goodIn_of _ (by decide +kernel)) ggX0_tellOfEntrant_X0_scoreOf
set_option maxRecDepth 20000 in
theorem ggX0_tellOfEntrant_X0_isComplete : GoodIn wsX0_tellOfEntrant wsX0_isComplete := goodIn_r _ [91, 2, 4, 45, 92, 93, 94, 19, 95, 96, 28, 29, 30, 31, 32, 33, 34, 97, 98, 99, 49, 100, 51, 62, 63, 64, 65, 66, 56, 57, 58, 59, 60, 61, 112, 113, 114, 115, 116, 117, 118, 119, 120, 121, 122, 123, 124, 125, 132, 133, 134, 135, 136, 137, 138, 139] (by decide +kernel) (by decide +kernel)
set_option maxRecDepth 20000 in
theorem gX0_tellOfEntrant_X0_isComplete : GoodIn wsX0_tellOfEntrant (wsV RX0 170 RX0 yX0_isComplete wsX0_isComplete) := goodIn_app (goodIn_of _ (by decide +kernel)) ggX0_tellOfEntrant_X0_isComplete
set_option maxRecDepth 20000 in
theorem ggX0_tellOfEntrant_X9_has : GoodIn wsX0_tellOfEntrant wsX9_has := goodIn_r _ [105, 106, 32, 33, 34, 126, 127, 128, 129] (by decide +kernel) (by decide +kernel)
set_option maxRecDepth 20000 in
theorem gX0_tellOfEntrant_X9_has : GoodIn wsX0_tellOfEntrant (wsV RX0 173 RX9 yX9_has wsX9_has) := goodIn_app (goodIn_of _ (by decide +kernel)) ggX0_tellOfEntrant_X9_has
set_option maxRecDepth 20000 in
theorem ggX0_tellOfEntrant_X3_meanOf : GoodIn wsX0_tellOfEntrant wsX3_meanOf := goodIn_r _ [110, 111, 81, 82, 49, 83, 51, 84, 85, 77, 86, 87, 76, 78, 56, 57, 58, 59, 60, 61, 62, 63, 64, 65, 66, 137, 138, 139] (by decide +kernel) (by decide +kernel)
set_option maxRecDepth 20000 in
theorem gX0_tellOfEntrant_X3_meanOf : GoodIn wsX0_tellOfEntrant (wsV RX0 177 RX3 yX3_meanOf wsX3_meanOf) := goodIn_app (goodIn_of _ (by decide +kernel)) ggX0_tellOfEntrant_X3_meanOf
theorem dX0_tellOfEntrant_0 : decode cX0_tellOfEntrant 0 = .ok (.iload_n 2, 1) := by decide +kernel
theorem dX0_tellOfEntrant_1 : decode cX0_tellOfEntrant 1 = .ok (.tableswitch 121 0 6 #[43, 60, 69, 78, 84, 90, 104], 43) := by decide +kernel
theorem dX0_tellOfEntrant_44 : decode cX0_tellOfEntrant 44 = .ok (.aload_n 0, 1) := by decide +kernel
theorem dX0_tellOfEntrant_45 : decode cX0_tellOfEntrant 45 = .ok (.getfield 31, 3) := by decide +kernel
theorem dX0_tellOfEntrant_48 : decode cX0_tellOfEntrant 48 = .ok (.iload_n 1, 1) := by decide +kernel
theorem dX0_tellOfEntrant_49 : decode cX0_tellOfEntrant 49 = .ok (.invokevirtual 153, 3) := by decide +kernel
theorem dX0_tellOfEntrant_52 : decode cX0_tellOfEntrant 52 = .ok (.ifCond .eq 7, 3) := by decide +kernel
theorem dX0_tellOfEntrant_55 : decode cX0_tellOfEntrant 55 = .ok (.iconst 1, 1) := by decide +kernel
theorem dX0_tellOfEntrant_56 : decode cX0_tellOfEntrant 56 = .ok (.goto 4, 3) := by decide +kernel
theorem dX0_tellOfEntrant_59 : decode cX0_tellOfEntrant 59 = .ok (.iconst 0, 1) := by decide +kernel
theorem dX0_tellOfEntrant_60 : decode cX0_tellOfEntrant 60 = .ok (.ireturn, 1) := by decide +kernel
theorem dX0_tellOfEntrant_61 : decode cX0_tellOfEntrant 61 = .ok (.aload_n 0, 1) := by decide +kernel
theorem dX0_tellOfEntrant_62 : decode cX0_tellOfEntrant 62 = .ok (.getfield 57, 3) := by decide +kernel
theorem dX0_tellOfEntrant_65 : decode cX0_tellOfEntrant 65 = .ok (.iload_n 1, 1) := by decide +kernel
theorem dX0_tellOfEntrant_66 : decode cX0_tellOfEntrant 66 = .ok (.invokevirtual 157, 3) := by decide +kernel
theorem dX0_tellOfEntrant_69 : decode cX0_tellOfEntrant 69 = .ok (.ireturn, 1) := by decide +kernel
theorem dX0_tellOfEntrant_70 : decode cX0_tellOfEntrant 70 = .ok (.aload_n 0, 1) := by decide +kernel
theorem dX0_tellOfEntrant_71 : decode cX0_tellOfEntrant 71 = .ok (.getfield 57, 3) := by decide +kernel
theorem dX0_tellOfEntrant_74 : decode cX0_tellOfEntrant 74 = .ok (.iload_n 1, 1) := by decide +kernel
theorem dX0_tellOfEntrant_75 : decode cX0_tellOfEntrant 75 = .ok (.invokevirtual 161, 3) := by decide +kernel
theorem dX0_tellOfEntrant_78 : decode cX0_tellOfEntrant 78 = .ok (.ireturn, 1) := by decide +kernel
theorem dX0_tellOfEntrant_79 : decode cX0_tellOfEntrant 79 = .ok (.aload_n 0, 1) := by decide +kernel
theorem dX0_tellOfEntrant_80 : decode cX0_tellOfEntrant 80 = .ok (.iload_n 1, 1) := by decide +kernel
theorem dX0_tellOfEntrant_81 : decode cX0_tellOfEntrant 81 = .ok (.invokevirtual 164, 3) := by decide +kernel
theorem dX0_tellOfEntrant_84 : decode cX0_tellOfEntrant 84 = .ok (.ireturn, 1) := by decide +kernel
theorem dX0_tellOfEntrant_85 : decode cX0_tellOfEntrant 85 = .ok (.aload_n 0, 1) := by decide +kernel
theorem dX0_tellOfEntrant_86 : decode cX0_tellOfEntrant 86 = .ok (.iload_n 1, 1) := by decide +kernel
theorem dX0_tellOfEntrant_87 : decode cX0_tellOfEntrant 87 = .ok (.invokevirtual 167, 3) := by decide +kernel
theorem dX0_tellOfEntrant_90 : decode cX0_tellOfEntrant 90 = .ok (.ireturn, 1) := by decide +kernel
theorem dX0_tellOfEntrant_91 : decode cX0_tellOfEntrant 91 = .ok (.aload_n 0, 1) := by decide +kernel
theorem dX0_tellOfEntrant_92 : decode cX0_tellOfEntrant 92 = .ok (.iload_n 1, 1) := by decide +kernel
theorem dX0_tellOfEntrant_93 : decode cX0_tellOfEntrant 93 = .ok (.invokevirtual 170, 3) := by decide +kernel
theorem dX0_tellOfEntrant_96 : decode cX0_tellOfEntrant 96 = .ok (.ifCond .eq 7, 3) := by decide +kernel
theorem dX0_tellOfEntrant_99 : decode cX0_tellOfEntrant 99 = .ok (.iconst 1, 1) := by decide +kernel
theorem dX0_tellOfEntrant_100 : decode cX0_tellOfEntrant 100 = .ok (.goto 4, 3) := by decide +kernel
theorem dX0_tellOfEntrant_103 : decode cX0_tellOfEntrant 103 = .ok (.iconst 0, 1) := by decide +kernel
theorem dX0_tellOfEntrant_104 : decode cX0_tellOfEntrant 104 = .ok (.ireturn, 1) := by decide +kernel
theorem dX0_tellOfEntrant_105 : decode cX0_tellOfEntrant 105 = .ok (.aload_n 0, 1) := by decide +kernel
theorem dX0_tellOfEntrant_106 : decode cX0_tellOfEntrant 106 = .ok (.getfield 71, 3) := by decide +kernel
theorem dX0_tellOfEntrant_109 : decode cX0_tellOfEntrant 109 = .ok (.iload_n 1, 1) := by decide +kernel
theorem dX0_tellOfEntrant_110 : decode cX0_tellOfEntrant 110 = .ok (.invokevirtual 173, 3) := by decide +kernel
theorem dX0_tellOfEntrant_113 : decode cX0_tellOfEntrant 113 = .ok (.ifCond .eq 7, 3) := by decide +kernel
theorem dX0_tellOfEntrant_116 : decode cX0_tellOfEntrant 116 = .ok (.iconst 1, 1) := by decide +kernel
theorem dX0_tellOfEntrant_117 : decode cX0_tellOfEntrant 117 = .ok (.goto 4, 3) := by decide +kernel
theorem dX0_tellOfEntrant_120 : decode cX0_tellOfEntrant 120 = .ok (.iconst 0, 1) := by decide +kernel
theorem dX0_tellOfEntrant_121 : decode cX0_tellOfEntrant 121 = .ok (.ireturn, 1) := by decide +kernel
theorem dX0_tellOfEntrant_122 : decode cX0_tellOfEntrant 122 = .ok (.aload_n 0, 1) := by decide +kernel
theorem dX0_tellOfEntrant_123 : decode cX0_tellOfEntrant 123 = .ok (.getfield 50, 3) := by decide +kernel
theorem dX0_tellOfEntrant_126 : decode cX0_tellOfEntrant 126 = .ok (.aload_n 0, 1) := by decide +kernel
theorem dX0_tellOfEntrant_127 : decode cX0_tellOfEntrant 127 = .ok (.getfield 71, 3) := by decide +kernel
theorem dX0_tellOfEntrant_130 : decode cX0_tellOfEntrant 130 = .ok (.getfield 176, 3) := by decide +kernel
theorem dX0_tellOfEntrant_133 : decode cX0_tellOfEntrant 133 = .ok (.iload_n 1, 1) := by decide +kernel
theorem dX0_tellOfEntrant_134 : decode cX0_tellOfEntrant 134 = .ok (.invokevirtual 177, 3) := by decide +kernel
theorem dX0_tellOfEntrant_137 : decode cX0_tellOfEntrant 137 = .ok (.ireturn, 1) := by decide +kernel
theorem dX0_openSheet_0 : decode cX0_openSheet 0 = .ok (.aload_n 0, 1) := by decide +kernel
theorem dX0_openSheet_1 : decode cX0_openSheet 1 = .ok (.getfield 9, 3) := by decide +kernel
theorem dX0_openSheet_4 : decode cX0_openSheet 4 = .ok (.iconst 2, 1) := by decide +kernel
theorem dX0_openSheet_5 : decode cX0_openSheet 5 = .ok (.if_icmp .ne 13, 3) := by decide +kernel
theorem dX0_openSheet_8 : decode cX0_openSheet 8 = .ok (.aload_n 0, 1) := by decide +kernel
theorem dX0_openSheet_9 : decode cX0_openSheet 9 = .ok (.getfield 71, 3) := by decide +kernel
theorem dX0_openSheet_12 : decode cX0_openSheet 12 = .ok (.getfield 176, 3) := by decide +kernel
theorem dX0_openSheet_15 : decode cX0_openSheet 15 = .ok (.goto 7, 3) := by decide +kernel
theorem dX0_openSheet_18 : decode cX0_openSheet 18 = .ok (.aload_n 0, 1) := by decide +kernel
theorem dX0_openSheet_19 : decode cX0_openSheet 19 = .ok (.getfield 64, 3) := by decide +kernel
theorem dX0_openSheet_22 : decode cX0_openSheet 22 = .ok (.areturn, 1) := by decide +kernel
set_option maxRecDepth 20000 in
theorem ggX0_canBeMarked_X9_has : GoodIn wsX0_canBeMarked wsX9_has := goodIn_r _ [8, 9, 10, 11, 12, 37, 38, 39, 40] (by decide +kernel) (by decide +kernel)
set_option maxRecDepth 20000 in
theorem gX0_canBeMarked_X9_has : GoodIn wsX0_canBeMarked (wsV RX0 173 RX9 yX9_has wsX9_has) := goodIn_app (goodIn_of _ (by decide +kernel)) ggX0_canBeMarked_X9_has
set_option maxRecDepth 20000 in
theorem ggX0_canBeMarked_X7_hasPlayed : GoodIn wsX0_canBeMarked wsX7_hasPlayed := goodIn_r _ [17, 18, 19, 20, 16, 21, 22, 10, 11, 12, 41, 42, 43, 44, 45] (by decide +kernel) (by decide +kernel)
set_option maxRecDepth 20000 in
theorem gX0_canBeMarked_X7_hasPlayed : GoodIn wsX0_canBeMarked (wsV RX0 181 RX7 yX7_hasPlayed wsX7_hasPlayed) := goodIn_app (goodIn_of _ (by decide +kernel)) ggX0_canBeMarked_X7_hasPlayed
theorem dX0_canBeMarked_0 : decode cX0_canBeMarked 0 = .ok (.aload_n 0, 1) := by decide +kernel
theorem dX0_canBeMarked_1 : decode cX0_canBeMarked 1 = .ok (.getfield 9, 3) := by decide +kernel
theorem dX0_canBeMarked_4 : decode cX0_canBeMarked 4 = .ok (.iconst 2, 1) := by decide +kernel
theorem dX0_canBeMarked_5 : decode cX0_canBeMarked 5 = .ok (.if_icmp .ne 12, 3) := by decide +kernel
theorem dX0_canBeMarked_8 : decode cX0_canBeMarked 8 = .ok (.aload_n 0, 1) := by decide +kernel
theorem dX0_canBeMarked_9 : decode cX0_canBeMarked 9 = .ok (.getfield 71, 3) := by decide +kernel
theorem dX0_canBeMarked_12 : decode cX0_canBeMarked 12 = .ok (.iload_n 1, 1) := by decide +kernel
theorem dX0_canBeMarked_13 : decode cX0_canBeMarked 13 = .ok (.invokevirtual 173, 3) := by decide +kernel
theorem dX0_canBeMarked_16 : decode cX0_canBeMarked 16 = .ok (.ireturn, 1) := by decide +kernel
theorem dX0_canBeMarked_17 : decode cX0_canBeMarked 17 = .ok (.aload_n 0, 1) := by decide +kernel
theorem dX0_canBeMarked_18 : decode cX0_canBeMarked 18 = .ok (.getfield 9, 3) := by decide +kernel
theorem dX0_canBeMarked_21 : decode cX0_canBeMarked 21 = .ok (.iconst 1, 1) := by decide +kernel
theorem dX0_canBeMarked_22 : decode cX0_canBeMarked 22 = .ok (.if_icmp .ne 18, 3) := by decide +kernel
theorem dX0_canBeMarked_25 : decode cX0_canBeMarked 25 = .ok (.aload_n 0, 1) := by decide +kernel
theorem dX0_canBeMarked_26 : decode cX0_canBeMarked 26 = .ok (.getfield 57, 3) := by decide +kernel
theorem dX0_canBeMarked_29 : decode cX0_canBeMarked 29 = .ok (.iload_n 1, 1) := by decide +kernel
theorem dX0_canBeMarked_30 : decode cX0_canBeMarked 30 = .ok (.invokevirtual 181, 3) := by decide +kernel
theorem dX0_canBeMarked_33 : decode cX0_canBeMarked 33 = .ok (.ifCond .eq 7, 3) := by decide +kernel
theorem dX0_canBeMarked_36 : decode cX0_canBeMarked 36 = .ok (.iconst 1, 1) := by decide +kernel
theorem dX0_canBeMarked_37 : decode cX0_canBeMarked 37 = .ok (.goto 4, 3) := by decide +kernel
theorem dX0_canBeMarked_40 : decode cX0_canBeMarked 40 = .ok (.iconst 0, 1) := by decide +kernel
theorem dX0_canBeMarked_41 : decode cX0_canBeMarked 41 = .ok (.ireturn, 1) := by decide +kernel
set_option maxRecDepth 20000 in
theorem ggX0_countedMarks_X0_openSheet : GoodIn wsX0_countedMarks wsX0_openSheet := goodIn_r _ [6, 7, 8, 9, 31, 32, 33, 34, 35, 36, 37, 38, 39, 40, 41, 42, 43, 44, 45, 46, 47, 48] (by decide +kernel) (by decide +kernel)
set_option maxRecDepth 20000 in
theorem gX0_countedMarks_X0_openSheet : GoodIn wsX0_countedMarks (wsV RX0 184 RX0 yX0_openSheet wsX0_openSheet) := goodIn_app (goodIn_of _ (by decide +kernel)) ggX0_countedMarks_X0_openSheet
set_option maxRecDepth 20000 in
theorem ggX0_countedMarks_X3_countMarks : GoodIn wsX0_countedMarks wsX3_countMarks := goodIn_r _ [14, 15, 16, 17, 18, 13, 19, 20, 21, 22, 23, 24, 25, 26, 27, 28, 29, 30, 49, 50, 51] (by decide +kernel) (by decide +kernel)
set_option maxRecDepth 20000 in
theorem gX0_countedMarks_X3_countMarks : GoodIn wsX0_countedMarks (wsV RX0 188 RX3 yX3_countMarks wsX3_countMarks) := goodIn_app (goodIn_of _ (by decide +kernel)) ggX0_countedMarks_X3_countMarks
theorem dX0_countedMarks_0 : decode cX0_countedMarks 0 = .ok (.aload_n 0, 1) := by decide +kernel
theorem dX0_countedMarks_1 : decode cX0_countedMarks 1 = .ok (.getfield 50, 3) := by decide +kernel
theorem dX0_countedMarks_4 : decode cX0_countedMarks 4 = .ok (.aload_n 0, 1) := by decide +kernel
theorem dX0_countedMarks_5 : decode cX0_countedMarks 5 = .ok (.invokevirtual 184, 3) := by decide +kernel
theorem dX0_countedMarks_8 : decode cX0_countedMarks 8 = .ok (.iload_n 1, 1) := by decide +kernel
theorem dX0_countedMarks_9 : decode cX0_countedMarks 9 = .ok (.invokevirtual 188, 3) := by decide +kernel
theorem dX0_countedMarks_12 : decode cX0_countedMarks 12 = .ok (.ireturn, 1) := by decide +kernel
set_option maxRecDepth 20000 in
theorem ggX0_scoreOf_X0_scoreWith : GoodIn wsX0_scoreOf wsX0_scoreWith := goodIn_r _ [5, 6, 7, 8, 9, 10, 11, 12, 13, 14, 15, 16, 17, 18, 19, 20, 21, 22, 23, 24, 25, 26, 27, 28, 29, 30, 31, 32, 33, 34, 35, 36, 37, 38, 39, 40, 41, 42, 43, 44, 45, 46, 47, 48, 49, 50, 51, 52, 53, 54, 55, 56, 57, 58, 59, 60, 61, 62, 63, 64, 65] (by decide +kernel) (by decide +kernel)
set_option maxRecDepth 20000 in
theorem gX0_scoreOf_X0_scoreWith : GoodIn wsX0_scoreOf (wsV RX0 191 RX0 yX0_scoreWith wsX0_scoreWith) := goodIn_app (goodIn_of _ (by decide +kernel)) ggX0_scoreOf_X0_scoreWith
theorem dX0_scoreOf_0 : decode cX0_scoreOf 0 = .ok (.aload_n 0, 1) := by decide +kernel
theorem dX0_scoreOf_1 : decode cX0_scoreOf 1 = .ok (.iconst (-1), 1) := by decide +kernel
theorem dX0_scoreOf_2 : decode cX0_scoreOf 2 = .ok (.iload_n 1, 1) := by decide +kernel
theorem dX0_scoreOf_3 : decode cX0_scoreOf 3 = .ok (.iconst (-1), 1) := by decide +kernel
theorem dX0_scoreOf_4 : decode cX0_scoreOf 4 = .ok (.invokevirtual 191, 3) := by decide +kernel
theorem dX0_scoreOf_7 : decode cX0_scoreOf 7 = .ok (.ireturn, 1) := by decide +kernel
set_option maxRecDepth 20000 in
theorem ggX0_scoreWith_X3_meanIf : GoodIn wsX0_scoreWith wsX3_meanIf := goodIn_r _ [13, 14, 15, 16, 6, 17, 18, 5, 7, 19, 20, 21, 22, 23, 24, 25, 26, 27, 12, 28, 29, 53, 54, 55] (by decide +kernel) (by decide +kernel)
set_option maxRecDepth 20000 in
theorem gX0_scoreWith_X3_meanIf : GoodIn wsX0_scoreWith (wsV RX0 195 RX3 yX3_meanIf wsX3_meanIf) := goodIn_app (goodIn_of _ (by decide +kernel)) ggX0_scoreWith_X3_meanIf
set_option maxRecDepth 20000 in
theorem ggX0_scoreWith_X7_slipsOf : GoodIn wsX0_scoreWith wsX7_slipsOf := goodIn_r _ [34, 35, 36, 37, 38, 56, 57, 58, 59, 60] (by decide +kernel) (by decide +kernel)
set_option maxRecDepth 20000 in
theorem gX0_scoreWith_X7_slipsOf : GoodIn wsX0_scoreWith (wsV RX0 161 RX7 yX7_slipsOf wsX7_slipsOf) := goodIn_app (goodIn_of _ (by decide +kernel)) ggX0_scoreWith_X7_slipsOf
theorem dX0_scoreWith_0 : decode cX0_scoreWith 0 = .ok (.aload_n 0, 1) := by decide +kernel
theorem dX0_scoreWith_1 : decode cX0_scoreWith 1 = .ok (.getfield 50, 3) := by decide +kernel
theorem dX0_scoreWith_4 : decode cX0_scoreWith 4 = .ok (.aload_n 0, 1) := by decide +kernel
theorem dX0_scoreWith_5 : decode cX0_scoreWith 5 = .ok (.getfield 64, 3) := by decide +kernel
theorem dX0_scoreWith_8 : decode cX0_scoreWith 8 = .ok (.iload_n 2, 1) := by decide +kernel
theorem dX0_scoreWith_9 : decode cX0_scoreWith 9 = .ok (.iload_n 1, 1) := by decide +kernel
theorem dX0_scoreWith_10 : decode cX0_scoreWith 10 = .ok (.iload_n 3, 1) := by decide +kernel
theorem dX0_scoreWith_11 : decode cX0_scoreWith 11 = .ok (.invokevirtual 195, 3) := by decide +kernel
theorem dX0_scoreWith_14 : decode cX0_scoreWith 14 = .ok (.istore 4, 2) := by decide +kernel
theorem dX0_scoreWith_16 : decode cX0_scoreWith 16 = .ok (.iload 4, 2) := by decide +kernel
theorem dX0_scoreWith_18 : decode cX0_scoreWith 18 = .ok (.iconst (-1), 1) := by decide +kernel
theorem dX0_scoreWith_19 : decode cX0_scoreWith 19 = .ok (.if_icmp .ne 5, 3) := by decide +kernel
theorem dX0_scoreWith_22 : decode cX0_scoreWith 22 = .ok (.iconst (-1), 1) := by decide +kernel
theorem dX0_scoreWith_23 : decode cX0_scoreWith 23 = .ok (.ireturn, 1) := by decide +kernel
theorem dX0_scoreWith_24 : decode cX0_scoreWith 24 = .ok (.iconst 0, 1) := by decide +kernel
theorem dX0_scoreWith_25 : decode cX0_scoreWith 25 = .ok (.aload_n 0, 1) := by decide +kernel
theorem dX0_scoreWith_26 : decode cX0_scoreWith 26 = .ok (.getfield 57, 3) := by decide +kernel
theorem dX0_scoreWith_29 : decode cX0_scoreWith 29 = .ok (.iload_n 2, 1) := by decide +kernel
theorem dX0_scoreWith_30 : decode cX0_scoreWith 30 = .ok (.invokevirtual 161, 3) := by decide +kernel
theorem dX0_scoreWith_33 : decode cX0_scoreWith 33 = .ok (.invokestatic 199, 3) := by decide +kernel
theorem dX0_scoreWith_36 : decode cX0_scoreWith 36 = .ok (.istore 5, 2) := by decide +kernel
theorem dX0_scoreWith_38 : decode cX0_scoreWith 38 = .ok (.iconst 0, 1) := by decide +kernel
theorem dX0_scoreWith_39 : decode cX0_scoreWith 39 = .ok (.iload 4, 2) := by decide +kernel
theorem dX0_scoreWith_41 : decode cX0_scoreWith 41 = .ok (.aload_n 0, 1) := by decide +kernel
theorem dX0_scoreWith_42 : decode cX0_scoreWith 42 = .ok (.getfield 18, 3) := by decide +kernel
theorem dX0_scoreWith_45 : decode cX0_scoreWith 45 = .ok (.bipush 10, 2) := by decide +kernel
theorem dX0_scoreWith_47 : decode cX0_scoreWith 47 = .ok (.imul, 1) := by decide +kernel
theorem dX0_scoreWith_48 : decode cX0_scoreWith 48 = .ok (.iload 5, 2) := by decide +kernel
theorem dX0_scoreWith_50 : decode cX0_scoreWith 50 = .ok (.imul, 1) := by decide +kernel
theorem dX0_scoreWith_51 : decode cX0_scoreWith 51 = .ok (.isub, 1) := by decide +kernel
theorem dX0_scoreWith_52 : decode cX0_scoreWith 52 = .ok (.invokestatic 199, 3) := by decide +kernel
theorem dX0_scoreWith_55 : decode cX0_scoreWith 55 = .ok (.ireturn, 1) := by decide +kernel
set_option maxRecDepth 20000 in
theorem ggX0_isComplete_X7_hasPlayed : GoodIn wsX0_isComplete wsX7_hasPlayed := goodIn_r _ [8, 9, 10, 11, 7, 12, 13, 14, 15, 16, 48, 49, 50, 51, 52] (by decide +kernel) (by decide +kernel)
set_option maxRecDepth 20000 in
theorem gX0_isComplete_X7_hasPlayed : GoodIn wsX0_isComplete (wsV RX0 181 RX7 yX7_hasPlayed wsX7_hasPlayed) := goodIn_app (goodIn_of _ (by decide +kernel)) ggX0_isComplete_X7_hasPlayed
set_option maxRecDepth 20000 in
theorem ggX0_isComplete_X3_isSettled : GoodIn wsX0_isComplete wsX3_isSettled := goodIn_r _ [21, 22, 23, 24, 25, 20, 26, 27, 28, 29, 30, 31, 32, 33, 53, 54, 55] (by decide +kernel) (by decide +kernel)
set_option maxRecDepth 20000 in
theorem gX0_isComplete_X3_isSettled : GoodIn wsX0_isComplete (wsV RX0 205 RX3 yX3_isSettled wsX3_isSettled) := goodIn_app (goodIn_of _ (by decide +kernel)) ggX0_isComplete_X3_isSettled
theorem dX0_isComplete_0 : decode cX0_isComplete 0 = .ok (.aload_n 0, 1) := by decide +kernel
theorem dX0_isComplete_1 : decode cX0_isComplete 1 = .ok (.getfield 57, 3) := by decide +kernel
theorem dX0_isComplete_4 : decode cX0_isComplete 4 = .ok (.iload_n 1, 1) := by decide +kernel
theorem dX0_isComplete_5 : decode cX0_isComplete 5 = .ok (.invokevirtual 181, 3) := by decide +kernel
theorem dX0_isComplete_8 : decode cX0_isComplete 8 = .ok (.ifCond .eq 22, 3) := by decide +kernel
theorem dX0_isComplete_11 : decode cX0_isComplete 11 = .ok (.aload_n 0, 1) := by decide +kernel
theorem dX0_isComplete_12 : decode cX0_isComplete 12 = .ok (.getfield 50, 3) := by decide +kernel
theorem dX0_isComplete_15 : decode cX0_isComplete 15 = .ok (.aload_n 0, 1) := by decide +kernel
theorem dX0_isComplete_16 : decode cX0_isComplete 16 = .ok (.getfield 64, 3) := by decide +kernel
theorem dX0_isComplete_19 : decode cX0_isComplete 19 = .ok (.iload_n 1, 1) := by decide +kernel
theorem dX0_isComplete_20 : decode cX0_isComplete 20 = .ok (.invokevirtual 205, 3) := by decide +kernel
theorem dX0_isComplete_23 : decode cX0_isComplete 23 = .ok (.ifCond .eq 7, 3) := by decide +kernel
theorem dX0_isComplete_26 : decode cX0_isComplete 26 = .ok (.iconst 1, 1) := by decide +kernel
theorem dX0_isComplete_27 : decode cX0_isComplete 27 = .ok (.goto 4, 3) := by decide +kernel
theorem dX0_isComplete_30 : decode cX0_isComplete 30 = .ok (.iconst 0, 1) := by decide +kernel
theorem dX0_isComplete_31 : decode cX0_isComplete 31 = .ok (.ireturn, 1) := by decide +kernel
set_option maxRecDepth 20000 in
theorem ggX0_distanceOf_X7_playerAt : GoodIn wsX0_distanceOf wsX7_playerAt := goodIn_r _ [15, 16, 17, 58, 59, 60, 61, 62] (by decide +kernel) (by decide +kernel)
set_option maxRecDepth 20000 in
theorem gX0_distanceOf_X7_playerAt : GoodIn wsX0_distanceOf (wsV RX0 209 RX7 yX7_playerAt wsX7_playerAt) := goodIn_app (goodIn_of _ (by decide +kernel)) ggX0_distanceOf_X7_playerAt
set_option maxRecDepth 20000 in
theorem ggX0_distanceOf_X3_meanIf : GoodIn wsX0_distanceOf wsX3_meanIf := goodIn_r _ [22, 23, 24, 25, 6, 26, 27, 9, 10, 28, 29, 30, 31, 32, 33, 34, 35, 36, 21, 37, 38, 63, 64, 65] (by decide +kernel) (by decide +kernel)
set_option maxRecDepth 20000 in
theorem gX0_distanceOf_X3_meanIf : GoodIn wsX0_distanceOf (wsV RX0 195 RX3 yX3_meanIf wsX3_meanIf) := goodIn_app (goodIn_of _ (by decide +kernel)) ggX0_distanceOf_X3_meanIf
set_option maxRecDepth 20000 in
theorem ggX0_distanceOf_X3_counts : GoodIn wsX0_distanceOf wsX3_counts := goodIn_r _ [42, 28, 29, 30, 31, 32, 33, 34, 35, 36, 21, 37, 38, 65, 63, 64] (by decide +kernel) (by decide +kernel)
set_option maxRecDepth 20000 in
theorem gX0_distanceOf_X3_counts : GoodIn wsX0_distanceOf (wsV RX0 212 RX3 yX3_counts wsX3_counts) := goodIn_app (goodIn_of _ (by decide +kernel)) ggX0_distanceOf_X3_counts
set_option maxRecDepth 20000 in
theorem ggX0_distanceOf_X6_at : GoodIn wsX0_distanceOf wsX6_at := goodIn_r _ [32, 33, 65] (by decide +kernel) (by decide +kernel)
set_option maxRecDepth 20000 in
theorem gX0_distanceOf_X6_at : GoodIn wsX0_distanceOf (wsV RX0 216 RX6 yX6_at wsX6_at) := goodIn_app (goodIn_of _ (by decide +kernel)) ggX0_distanceOf_X6_at
theorem dX0_distanceOf_0 : decode cX0_distanceOf 0 = .ok (.iconst (-1), 1) := by decide +kernel
theorem dX0_distanceOf_1 : decode cX0_distanceOf 1 = .ok (.istore_n 2, 1) := by decide +kernel
theorem dX0_distanceOf_2 : decode cX0_distanceOf 2 = .ok (.iconst 0, 1) := by decide +kernel
theorem dX0_distanceOf_3 : decode cX0_distanceOf 3 = .ok (.istore_n 3, 1) := by decide +kernel
theorem dX0_distanceOf_4 : decode cX0_distanceOf 4 = .ok (.iload_n 3, 1) := by decide +kernel
theorem dX0_distanceOf_5 : decode cX0_distanceOf 5 = .ok (.aload_n 0, 1) := by decide +kernel
theorem dX0_distanceOf_6 : decode cX0_distanceOf 6 = .ok (.getfield 57, 3) := by decide +kernel
theorem dX0_distanceOf_9 : decode cX0_distanceOf 9 = .ok (.getfield 139, 3) := by decide +kernel
theorem dX0_distanceOf_12 : decode cX0_distanceOf 12 = .ok (.if_icmp .ge 90, 3) := by decide +kernel
theorem dX0_distanceOf_15 : decode cX0_distanceOf 15 = .ok (.aload_n 0, 1) := by decide +kernel
theorem dX0_distanceOf_16 : decode cX0_distanceOf 16 = .ok (.getfield 57, 3) := by decide +kernel
theorem dX0_distanceOf_19 : decode cX0_distanceOf 19 = .ok (.iload_n 3, 1) := by decide +kernel
theorem dX0_distanceOf_20 : decode cX0_distanceOf 20 = .ok (.invokevirtual 209, 3) := by decide +kernel
theorem dX0_distanceOf_23 : decode cX0_distanceOf 23 = .ok (.istore 4, 2) := by decide +kernel
theorem dX0_distanceOf_25 : decode cX0_distanceOf 25 = .ok (.aload_n 0, 1) := by decide +kernel
theorem dX0_distanceOf_26 : decode cX0_distanceOf 26 = .ok (.getfield 50, 3) := by decide +kernel
theorem dX0_distanceOf_29 : decode cX0_distanceOf 29 = .ok (.aload_n 0, 1) := by decide +kernel
theorem dX0_distanceOf_30 : decode cX0_distanceOf 30 = .ok (.getfield 64, 3) := by decide +kernel
theorem dX0_distanceOf_33 : decode cX0_distanceOf 33 = .ok (.iload 4, 2) := by decide +kernel
theorem dX0_distanceOf_35 : decode cX0_distanceOf 35 = .ok (.iload_n 1, 1) := by decide +kernel
theorem dX0_distanceOf_36 : decode cX0_distanceOf 36 = .ok (.iconst (-1), 1) := by decide +kernel
theorem dX0_distanceOf_37 : decode cX0_distanceOf 37 = .ok (.invokevirtual 195, 3) := by decide +kernel
theorem dX0_distanceOf_40 : decode cX0_distanceOf 40 = .ok (.istore 5, 2) := by decide +kernel
theorem dX0_distanceOf_42 : decode cX0_distanceOf 42 = .ok (.iload 5, 2) := by decide +kernel
theorem dX0_distanceOf_44 : decode cX0_distanceOf 44 = .ok (.iconst (-1), 1) := by decide +kernel
theorem dX0_distanceOf_45 : decode cX0_distanceOf 45 = .ok (.if_icmp .eq 51, 3) := by decide +kernel
theorem dX0_distanceOf_48 : decode cX0_distanceOf 48 = .ok (.aload_n 0, 1) := by decide +kernel
theorem dX0_distanceOf_49 : decode cX0_distanceOf 49 = .ok (.getfield 50, 3) := by decide +kernel
theorem dX0_distanceOf_52 : decode cX0_distanceOf 52 = .ok (.aload_n 0, 1) := by decide +kernel
theorem dX0_distanceOf_53 : decode cX0_distanceOf 53 = .ok (.getfield 64, 3) := by decide +kernel
theorem dX0_distanceOf_56 : decode cX0_distanceOf 56 = .ok (.iload_n 1, 1) := by decide +kernel
theorem dX0_distanceOf_57 : decode cX0_distanceOf 57 = .ok (.iload 4, 2) := by decide +kernel
theorem dX0_distanceOf_59 : decode cX0_distanceOf 59 = .ok (.invokevirtual 212, 3) := by decide +kernel
theorem dX0_distanceOf_62 : decode cX0_distanceOf 62 = .ok (.ifCond .eq 34, 3) := by decide +kernel
theorem dX0_distanceOf_65 : decode cX0_distanceOf 65 = .ok (.sipush 1000, 3) := by decide +kernel
theorem dX0_distanceOf_68 : decode cX0_distanceOf 68 = .ok (.aload_n 0, 1) := by decide +kernel
theorem dX0_distanceOf_69 : decode cX0_distanceOf 69 = .ok (.getfield 64, 3) := by decide +kernel
theorem dX0_distanceOf_72 : decode cX0_distanceOf 72 = .ok (.iload_n 1, 1) := by decide +kernel
theorem dX0_distanceOf_73 : decode cX0_distanceOf 73 = .ok (.iload 4, 2) := by decide +kernel
theorem dX0_distanceOf_75 : decode cX0_distanceOf 75 = .ok (.invokevirtual 216, 3) := by decide +kernel
theorem dX0_distanceOf_78 : decode cX0_distanceOf 78 = .ok (.imul, 1) := by decide +kernel
theorem dX0_distanceOf_79 : decode cX0_distanceOf 79 = .ok (.iload 5, 2) := by decide +kernel
theorem dX0_distanceOf_81 : decode cX0_distanceOf 81 = .ok (.isub, 1) := by decide +kernel
theorem dX0_distanceOf_82 : decode cX0_distanceOf 82 = .ok (.invokestatic 219, 3) := by decide +kernel
theorem dX0_distanceOf_85 : decode cX0_distanceOf 85 = .ok (.istore 6, 2) := by decide +kernel
theorem dX0_distanceOf_87 : decode cX0_distanceOf 87 = .ok (.iconst 0, 1) := by decide +kernel
theorem dX0_distanceOf_88 : decode cX0_distanceOf 88 = .ok (.iload_n 2, 1) := by decide +kernel
theorem dX0_distanceOf_89 : decode cX0_distanceOf 89 = .ok (.invokestatic 199, 3) := by decide +kernel
theorem dX0_distanceOf_92 : decode cX0_distanceOf 92 = .ok (.iload 6, 2) := by decide +kernel
theorem dX0_distanceOf_94 : decode cX0_distanceOf 94 = .ok (.iadd, 1) := by decide +kernel
theorem dX0_distanceOf_95 : decode cX0_distanceOf 95 = .ok (.istore_n 2, 1) := by decide +kernel
theorem dX0_distanceOf_96 : decode cX0_distanceOf 96 = .ok (.iinc 3 1, 3) := by decide +kernel
theorem dX0_distanceOf_99 : decode cX0_distanceOf 99 = .ok (.goto (-95), 3) := by decide +kernel
theorem dX0_distanceOf_102 : decode cX0_distanceOf 102 = .ok (.iload_n 2, 1) := by decide +kernel
theorem dX0_distanceOf_103 : decode cX0_distanceOf 103 = .ok (.ireturn, 1) := by decide +kernel
set_option maxRecDepth 20000 in
theorem ggX0_startRound_X7_empty : GoodIn wsX0_startRound wsX7_empty := goodIn_r _ [13, 14, 15, 16, 17, 18, 19, 20, 139, 140, 141, 142, 143] (by decide +kernel) (by decide +kernel)
set_option maxRecDepth 20000 in
theorem gX0_startRound_X7_empty : GoodIn wsX0_startRound (wsV RX0 222 RX7 yX7_empty wsX7_empty) := goodIn_app (goodIn_of _ (by decide +kernel)) ggX0_startRound_X7_empty
set_option maxRecDepth 20000 in
theorem ggX0_startRound_X6_wipe : GoodIn wsX0_startRound wsX6_wipe := goodIn_r _ [25, 26, 27, 18, 19, 20, 144] (by decide +kernel) (by decide +kernel)
set_option maxRecDepth 20000 in
theorem gX0_startRound_X6_wipe : GoodIn wsX0_startRound (wsV RX0 225 RX6 yX6_wipe wsX6_wipe) := goodIn_app (goodIn_of _ (by decide +kernel)) ggX0_startRound_X6_wipe
set_option maxRecDepth 20000 in
theorem ggX0_startRound_X2_isIn : GoodIn wsX0_startRound wsX2_isIn := goodIn_r _ [32, 33, 34, 35, 36, 31, 37, 38, 137, 138] (by decide +kernel) (by decide +kernel)
set_option maxRecDepth 20000 in
theorem gX0_startRound_X2_isIn : GoodIn wsX0_startRound (wsV RX0 153 RX2 yX2_isIn wsX2_isIn) := goodIn_app (goodIn_of _ (by decide +kernel)) ggX0_startRound_X2_isIn
set_option maxRecDepth 20000 in
theorem ggX0_startRound_X4_flawOf : GoodIn wsX0_startRound wsX4_flawOf := goodIn_r _ [43, 44, 45, 46, 42, 47, 48, 49, 50, 51, 52, 53, 54, 55, 56, 57, 58, 59, 60, 61, 62, 63, 64, 65, 66, 67, 68, 69, 70, 71, 72, 73, 74, 75, 76, 77, 78, 79, 80, 81, 82, 83, 84, 85, 86, 87, 88, 89, 90, 91, 92, 93, 94, 95, 96, 97, 145, 146, 147, 148, 149] (by decide +kernel) (by decide +kernel)
set_option maxRecDepth 20000 in
theorem gX0_startRound_X4_flawOf : GoodIn wsX0_startRound (wsV RX0 228 RX4 yX4_flawOf wsX4_flawOf) := goodIn_app (goodIn_of _ (by decide +kernel)) ggX0_startRound_X4_flawOf
set_option maxRecDepth 20000 in
theorem ggX0_startRound_X7_seat : GoodIn wsX0_startRound wsX7_seat := goodIn_r _ [101, 14, 102, 139, 140, 141, 142, 143] (by decide +kernel) (by decide +kernel)
set_option maxRecDepth 20000 in
theorem gX0_startRound_X7_seat : GoodIn wsX0_startRound (wsV RX0 232 RX7 yX7_seat wsX7_seat) := goodIn_app (goodIn_of _ (by decide +kernel)) ggX0_startRound_X7_seat
set_option maxRecDepth 20000 in
theorem ggX0_startRound_X2_putOut : GoodIn wsX0_startRound wsX2_putOut := goodIn_r _ [106, 33, 34, 35, 36, 31, 37, 38, 137, 138] (by decide +kernel) (by decide +kernel)
set_option maxRecDepth 20000 in
theorem gX0_startRound_X2_putOut : GoodIn wsX0_startRound (wsV RX0 236 RX2 yX2_putOut wsX2_putOut) := goodIn_app (goodIn_of _ (by decide +kernel)) ggX0_startRound_X2_putOut
set_option maxRecDepth 20000 in
theorem ggX0_startRound_X7_drawLots : GoodIn wsX0_startRound wsX7_drawLots := goodIn_r _ [110, 14, 111, 112, 113, 114, 115, 116, 117, 118, 12, 119, 102, 120, 121, 122, 139, 140, 141, 142, 143] (by decide +kernel) (by decide +kernel)
set_option maxRecDepth 20000 in
theorem gX0_startRound_X7_drawLots : GoodIn wsX0_startRound (wsV RX0 239 RX7 yX7_drawLots wsX7_drawLots) := goodIn_app (goodIn_of _ (by decide +kernel)) ggX0_startRound_X7_drawLots
theorem dX0_startRound_0 : decode cX0_startRound 0 = .ok (.aload_n 0, 1) := by decide +kernel
theorem dX0_startRound_1 : decode cX0_startRound 1 = .ok (.iload_n 1, 1) := by decide +kernel
theorem dX0_startRound_2 : decode cX0_startRound 2 = .ok (.putfield 99, 3) := by decide +kernel
theorem dX0_startRound_5 : decode cX0_startRound 5 = .ok (.aload_n 0, 1) := by decide +kernel
theorem dX0_startRound_6 : decode cX0_startRound 6 = .ok (.getfield 57, 3) := by decide +kernel
theorem dX0_startRound_9 : decode cX0_startRound 9 = .ok (.invokevirtual 222, 3) := by decide +kernel
theorem dX0_startRound_12 : decode cX0_startRound 12 = .ok (.aload_n 0, 1) := by decide +kernel
theorem dX0_startRound_13 : decode cX0_startRound 13 = .ok (.getfield 64, 3) := by decide +kernel
theorem dX0_startRound_16 : decode cX0_startRound 16 = .ok (.invokevirtual 225, 3) := by decide +kernel
theorem dX0_startRound_19 : decode cX0_startRound 19 = .ok (.iconst 0, 1) := by decide +kernel
theorem dX0_startRound_20 : decode cX0_startRound 20 = .ok (.istore_n 2, 1) := by decide +kernel
theorem dX0_startRound_21 : decode cX0_startRound 21 = .ok (.iload_n 2, 1) := by decide +kernel
theorem dX0_startRound_22 : decode cX0_startRound 22 = .ok (.aload_n 0, 1) := by decide +kernel
theorem dX0_startRound_23 : decode cX0_startRound 23 = .ok (.getfield 31, 3) := by decide +kernel
theorem dX0_startRound_26 : decode cX0_startRound 26 = .ok (.getfield 134, 3) := by decide +kernel
theorem dX0_startRound_29 : decode cX0_startRound 29 = .ok (.if_icmp .ge 62, 3) := by decide +kernel
theorem dX0_startRound_32 : decode cX0_startRound 32 = .ok (.aload_n 0, 1) := by decide +kernel
theorem dX0_startRound_33 : decode cX0_startRound 33 = .ok (.getfield 31, 3) := by decide +kernel
theorem dX0_startRound_36 : decode cX0_startRound 36 = .ok (.iload_n 2, 1) := by decide +kernel
theorem dX0_startRound_37 : decode cX0_startRound 37 = .ok (.invokevirtual 153, 3) := by decide +kernel
theorem dX0_startRound_40 : decode cX0_startRound 40 = .ok (.ifCond .ne 6, 3) := by decide +kernel
theorem dX0_startRound_43 : decode cX0_startRound 43 = .ok (.goto 42, 3) := by decide +kernel
theorem dX0_startRound_46 : decode cX0_startRound 46 = .ok (.aload_n 0, 1) := by decide +kernel
theorem dX0_startRound_47 : decode cX0_startRound 47 = .ok (.getfield 43, 3) := by decide +kernel
theorem dX0_startRound_50 : decode cX0_startRound 50 = .ok (.iload_n 2, 1) := by decide +kernel
theorem dX0_startRound_51 : decode cX0_startRound 51 = .ok (.iload_n 1, 1) := by decide +kernel
theorem dX0_startRound_52 : decode cX0_startRound 52 = .ok (.aload_n 0, 1) := by decide +kernel
theorem dX0_startRound_53 : decode cX0_startRound 53 = .ok (.getfield 37, 3) := by decide +kernel
theorem dX0_startRound_56 : decode cX0_startRound 56 = .ok (.aload_n 0, 1) := by decide +kernel
theorem dX0_startRound_57 : decode cX0_startRound 57 = .ok (.getfield 24, 3) := by decide +kernel
theorem dX0_startRound_60 : decode cX0_startRound 60 = .ok (.invokevirtual 228, 3) := by decide +kernel
theorem dX0_startRound_63 : decode cX0_startRound 63 = .ok (.ifCond .ne 14, 3) := by decide +kernel
theorem dX0_startRound_66 : decode cX0_startRound 66 = .ok (.aload_n 0, 1) := by decide +kernel
theorem dX0_startRound_67 : decode cX0_startRound 67 = .ok (.getfield 57, 3) := by decide +kernel
theorem dX0_startRound_70 : decode cX0_startRound 70 = .ok (.iload_n 2, 1) := by decide +kernel
theorem dX0_startRound_71 : decode cX0_startRound 71 = .ok (.invokevirtual 232, 3) := by decide +kernel
theorem dX0_startRound_74 : decode cX0_startRound 74 = .ok (.goto 11, 3) := by decide +kernel
theorem dX0_startRound_77 : decode cX0_startRound 77 = .ok (.aload_n 0, 1) := by decide +kernel
theorem dX0_startRound_78 : decode cX0_startRound 78 = .ok (.getfield 31, 3) := by decide +kernel
theorem dX0_startRound_81 : decode cX0_startRound 81 = .ok (.iload_n 2, 1) := by decide +kernel
theorem dX0_startRound_82 : decode cX0_startRound 82 = .ok (.invokevirtual 236, 3) := by decide +kernel
theorem dX0_startRound_85 : decode cX0_startRound 85 = .ok (.iinc 2 1, 3) := by decide +kernel
theorem dX0_startRound_88 : decode cX0_startRound 88 = .ok (.goto (-67), 3) := by decide +kernel
theorem dX0_startRound_91 : decode cX0_startRound 91 = .ok (.aload_n 0, 1) := by decide +kernel
theorem dX0_startRound_92 : decode cX0_startRound 92 = .ok (.getfield 57, 3) := by decide +kernel
theorem dX0_startRound_95 : decode cX0_startRound 95 = .ok (.invokevirtual 239, 3) := by decide +kernel
theorem dX0_startRound_98 : decode cX0_startRound 98 = .ok (.aload_n 0, 1) := by decide +kernel
theorem dX0_startRound_99 : decode cX0_startRound 99 = .ok (.aload_n 0, 1) := by decide +kernel
theorem dX0_startRound_100 : decode cX0_startRound 100 = .ok (.getfield 57, 3) := by decide +kernel
theorem dX0_startRound_103 : decode cX0_startRound 103 = .ok (.getfield 139, 3) := by decide +kernel
theorem dX0_startRound_106 : decode cX0_startRound 106 = .ok (.ifCond .le 7, 3) := by decide +kernel
theorem dX0_startRound_109 : decode cX0_startRound 109 = .ok (.iconst 1, 1) := by decide +kernel
theorem dX0_startRound_110 : decode cX0_startRound 110 = .ok (.goto 4, 3) := by decide +kernel
theorem dX0_startRound_113 : decode cX0_startRound 113 = .ok (.iconst 3, 1) := by decide +kernel
theorem dX0_startRound_114 : decode cX0_startRound 114 = .ok (.putfield 9, 3) := by decide +kernel
theorem dX0_startRound_117 : decode cX0_startRound 117 = .ok (.return_, 1) := by decide +kernel
set_option maxRecDepth 20000 in
theorem ggX0_letGo_X2_putOut : GoodIn wsX0_letGo wsX2_putOut := goodIn_r _ [8, 9, 10, 11, 12, 7, 13, 14, 56, 57] (by decide +kernel) (by decide +kernel)
set_option maxRecDepth 20000 in
theorem gX0_letGo_X2_putOut : GoodIn wsX0_letGo (wsV RX0 236 RX2 yX2_putOut wsX2_putOut) := goodIn_app (goodIn_of _ (by decide +kernel)) ggX0_letGo_X2_putOut
set_option maxRecDepth 20000 in
theorem ggX0_letGo_X7_unseat : GoodIn wsX0_letGo wsX7_unseat := goodIn_r _ [19, 20, 21, 22, 23, 18, 24, 25, 26, 27, 28, 29, 30, 31, 32, 33, 34, 35, 36, 51, 52, 53, 54, 55] (by decide +kernel) (by decide +kernel)
set_option maxRecDepth 20000 in
theorem gX0_letGo_X7_unseat : GoodIn wsX0_letGo (wsV RX0 242 RX7 yX7_unseat wsX7_unseat) := goodIn_app (goodIn_of _ (by decide +kernel)) ggX0_letGo_X7_unseat
theorem dX0_letGo_0 : decode cX0_letGo 0 = .ok (.aload_n 0, 1) := by decide +kernel
theorem dX0_letGo_1 : decode cX0_letGo 1 = .ok (.getfield 31, 3) := by decide +kernel
theorem dX0_letGo_4 : decode cX0_letGo 4 = .ok (.iload_n 1, 1) := by decide +kernel
theorem dX0_letGo_5 : decode cX0_letGo 5 = .ok (.invokevirtual 236, 3) := by decide +kernel
theorem dX0_letGo_8 : decode cX0_letGo 8 = .ok (.aload_n 0, 1) := by decide +kernel
theorem dX0_letGo_9 : decode cX0_letGo 9 = .ok (.getfield 57, 3) := by decide +kernel
theorem dX0_letGo_12 : decode cX0_letGo 12 = .ok (.iload_n 1, 1) := by decide +kernel
theorem dX0_letGo_13 : decode cX0_letGo 13 = .ok (.invokevirtual 242, 3) := by decide +kernel
theorem dX0_letGo_16 : decode cX0_letGo 16 = .ok (.aload_n 0, 1) := by decide +kernel
theorem dX0_letGo_17 : decode cX0_letGo 17 = .ok (.getfield 9, 3) := by decide +kernel
theorem dX0_letGo_20 : decode cX0_letGo 20 = .ok (.iconst 1, 1) := by decide +kernel
theorem dX0_letGo_21 : decode cX0_letGo 21 = .ok (.if_icmp .ne 18, 3) := by decide +kernel
theorem dX0_letGo_24 : decode cX0_letGo 24 = .ok (.aload_n 0, 1) := by decide +kernel
theorem dX0_letGo_25 : decode cX0_letGo 25 = .ok (.getfield 57, 3) := by decide +kernel
theorem dX0_letGo_28 : decode cX0_letGo 28 = .ok (.getfield 139, 3) := by decide +kernel
theorem dX0_letGo_31 : decode cX0_letGo 31 = .ok (.ifCond .ne 8, 3) := by decide +kernel
theorem dX0_letGo_34 : decode cX0_letGo 34 = .ok (.aload_n 0, 1) := by decide +kernel
theorem dX0_letGo_35 : decode cX0_letGo 35 = .ok (.iconst 3, 1) := by decide +kernel
theorem dX0_letGo_36 : decode cX0_letGo 36 = .ok (.putfield 9, 3) := by decide +kernel
theorem dX0_letGo_39 : decode cX0_letGo 39 = .ok (.return_, 1) := by decide +kernel
set_option maxRecDepth 20000 in
theorem ggX0_canBeClosed_X7_playerAt : GoodIn wsX0_canBeClosed wsX7_playerAt := goodIn_r _ [7, 8, 9, 71, 72, 73, 74, 75] (by decide +kernel) (by decide +kernel)
set_option maxRecDepth 20000 in
theorem gX0_canBeClosed_X7_playerAt : GoodIn wsX0_canBeClosed (wsV RX0 209 RX7 yX7_playerAt wsX7_playerAt) := goodIn_app (goodIn_of _ (by decide +kernel)) ggX0_canBeClosed_X7_playerAt
set_option maxRecDepth 20000 in
theorem ggX0_canBeClosed_X0_isAwaited : GoodIn wsX0_canBeClosed wsX0_isAwaited := goodIn_r _ [14, 1, 15, 16, 17, 18, 19, 20, 21, 22, 23, 24, 25, 26, 27, 28, 29, 30, 31, 32, 33, 34, 35, 36, 37, 38, 39, 40, 41, 42, 43, 44, 45, 13, 46, 2, 47, 48, 49, 50, 6, 51, 52, 53, 54, 55, 56, 57, 58, 59, 60, 61, 62, 63, 64, 65, 66, 67, 68, 69, 70, 76, 77, 78, 79, 80, 81, 82, 71, 72, 73, 74, 75] (by decide +kernel) (by decide +kernel)
set_option maxRecDepth 20000 in
theorem gX0_canBeClosed_X0_isAwaited : GoodIn wsX0_canBeClosed (wsV RX0 245 RX0 yX0_isAwaited wsX0_isAwaited) := goodIn_app (goodIn_of _ (by decide +kernel)) ggX0_canBeClosed_X0_isAwaited
theorem dX0_canBeClosed_0 : decode cX0_canBeClosed 0 = .ok (.aload_n 0, 1) := by decide +kernel
theorem dX0_canBeClosed_1 : decode cX0_canBeClosed 1 = .ok (.getfield 9, 3) := by decide +kernel
theorem dX0_canBeClosed_4 : decode cX0_canBeClosed 4 = .ok (.iconst 1, 1) := by decide +kernel
theorem dX0_canBeClosed_5 : decode cX0_canBeClosed 5 = .ok (.if_icmp .eq 13, 3) := by decide +kernel
theorem dX0_canBeClosed_8 : decode cX0_canBeClosed 8 = .ok (.aload_n 0, 1) := by decide +kernel
theorem dX0_canBeClosed_9 : decode cX0_canBeClosed 9 = .ok (.getfield 9, 3) := by decide +kernel
theorem dX0_canBeClosed_12 : decode cX0_canBeClosed 12 = .ok (.iconst 2, 1) := by decide +kernel
theorem dX0_canBeClosed_13 : decode cX0_canBeClosed 13 = .ok (.if_icmp .eq 5, 3) := by decide +kernel
theorem dX0_canBeClosed_16 : decode cX0_canBeClosed 16 = .ok (.iconst 0, 1) := by decide +kernel
theorem dX0_canBeClosed_17 : decode cX0_canBeClosed 17 = .ok (.ireturn, 1) := by decide +kernel
theorem dX0_canBeClosed_18 : decode cX0_canBeClosed 18 = .ok (.iconst 0, 1) := by decide +kernel
theorem dX0_canBeClosed_19 : decode cX0_canBeClosed 19 = .ok (.istore_n 1, 1) := by decide +kernel
theorem dX0_canBeClosed_20 : decode cX0_canBeClosed 20 = .ok (.iload_n 1, 1) := by decide +kernel
theorem dX0_canBeClosed_21 : decode cX0_canBeClosed 21 = .ok (.aload_n 0, 1) := by decide +kernel
theorem dX0_canBeClosed_22 : decode cX0_canBeClosed 22 = .ok (.getfield 57, 3) := by decide +kernel
theorem dX0_canBeClosed_25 : decode cX0_canBeClosed 25 = .ok (.getfield 139, 3) := by decide +kernel
theorem dX0_canBeClosed_28 : decode cX0_canBeClosed 28 = .ok (.if_icmp .ge 26, 3) := by decide +kernel
theorem dX0_canBeClosed_31 : decode cX0_canBeClosed 31 = .ok (.aload_n 0, 1) := by decide +kernel
theorem dX0_canBeClosed_32 : decode cX0_canBeClosed 32 = .ok (.aload_n 0, 1) := by decide +kernel
theorem dX0_canBeClosed_33 : decode cX0_canBeClosed 33 = .ok (.getfield 57, 3) := by decide +kernel
theorem dX0_canBeClosed_36 : decode cX0_canBeClosed 36 = .ok (.iload_n 1, 1) := by decide +kernel
theorem dX0_canBeClosed_37 : decode cX0_canBeClosed 37 = .ok (.invokevirtual 209, 3) := by decide +kernel
theorem dX0_canBeClosed_40 : decode cX0_canBeClosed 40 = .ok (.invokevirtual 245, 3) := by decide +kernel
theorem dX0_canBeClosed_43 : decode cX0_canBeClosed 43 = .ok (.ifCond .eq 5, 3) := by decide +kernel
theorem dX0_canBeClosed_46 : decode cX0_canBeClosed 46 = .ok (.iconst 0, 1) := by decide +kernel
theorem dX0_canBeClosed_47 : decode cX0_canBeClosed 47 = .ok (.ireturn, 1) := by decide +kernel
theorem dX0_canBeClosed_48 : decode cX0_canBeClosed 48 = .ok (.iinc 1 1, 3) := by decide +kernel
theorem dX0_canBeClosed_51 : decode cX0_canBeClosed 51 = .ok (.goto (-31), 3) := by decide +kernel
theorem dX0_canBeClosed_54 : decode cX0_canBeClosed 54 = .ok (.iconst 1, 1) := by decide +kernel
theorem dX0_canBeClosed_55 : decode cX0_canBeClosed 55 = .ok (.ireturn, 1) := by decide +kernel
set_option maxRecDepth 20000 in
theorem ggX0_isAwaited_X9_has : GoodIn wsX0_isAwaited wsX9_has := goodIn_r _ [8, 9, 10, 11, 12, 61, 62, 63, 64] (by decide +kernel) (by decide +kernel)
set_option maxRecDepth 20000 in
theorem gX0_isAwaited_X9_has : GoodIn wsX0_isAwaited (wsV RX0 173 RX9 yX9_has wsX9_has) := goodIn_app (goodIn_of _ (by decide +kernel)) ggX0_isAwaited_X9_has
set_option maxRecDepth 20000 in
theorem ggX0_isAwaited_X3_isSettled : GoodIn wsX0_isAwaited wsX3_isSettled := goodIn_r _ [17, 18, 19, 20, 21, 16, 22, 23, 24, 25, 26, 27, 28, 29, 65, 66, 67] (by decide +kernel) (by decide +kernel)
set_option maxRecDepth 20000 in
theorem gX0_isAwaited_X3_isSettled : GoodIn wsX0_isAwaited (wsV RX0 205 RX3 yX3_isSettled wsX3_isSettled) := goodIn_app (goodIn_of _ (by decide +kernel)) ggX0_isAwaited_X3_isSettled
set_option maxRecDepth 20000 in
theorem ggX0_isAwaited_X0_isComplete : GoodIn wsX0_isAwaited wsX0_isComplete := goodIn_r _ [34, 35, 3, 36, 37, 38, 39, 40, 41, 42, 43, 44, 45, 46, 10, 11, 12, 13, 14, 15, 16, 17, 18, 19, 20, 21, 22, 23, 24, 25, 26, 27, 28, 29, 47, 48, 49, 50, 51, 52, 53, 54, 55, 56, 57, 58, 59, 60, 68, 69, 70, 71, 72, 65, 66, 67] (by decide +kernel) (by decide +kernel)
set_option maxRecDepth 20000 in
theorem gX0_isAwaited_X0_isComplete : GoodIn wsX0_isAwaited (wsV RX0 170 RX0 yX0_isComplete wsX0_isComplete) := goodIn_app (goodIn_of _ (by decide +kernel)) ggX0_isAwaited_X0_isComplete
theorem dX0_isAwaited_0 : decode cX0_isAwaited 0 = .ok (.aload_n 0, 1) := by decide +kernel
theorem dX0_isAwaited_1 : decode cX0_isAwaited 1 = .ok (.getfield 9, 3) := by decide +kernel
theorem dX0_isAwaited_4 : decode cX0_isAwaited 4 = .ok (.iconst 2, 1) := by decide +kernel
theorem dX0_isAwaited_5 : decode cX0_isAwaited 5 = .ok (.if_icmp .ne 38, 3) := by decide +kernel
theorem dX0_isAwaited_8 : decode cX0_isAwaited 8 = .ok (.aload_n 0, 1) := by decide +kernel
theorem dX0_isAwaited_9 : decode cX0_isAwaited 9 = .ok (.getfield 71, 3) := by decide +kernel
theorem dX0_isAwaited_12 : decode cX0_isAwaited 12 = .ok (.iload_n 1, 1) := by decide +kernel
theorem dX0_isAwaited_13 : decode cX0_isAwaited 13 = .ok (.invokevirtual 173, 3) := by decide +kernel
theorem dX0_isAwaited_16 : decode cX0_isAwaited 16 = .ok (.ifCond .eq 25, 3) := by decide +kernel
theorem dX0_isAwaited_19 : decode cX0_isAwaited 19 = .ok (.aload_n 0, 1) := by decide +kernel
theorem dX0_isAwaited_20 : decode cX0_isAwaited 20 = .ok (.getfield 50, 3) := by decide +kernel
theorem dX0_isAwaited_23 : decode cX0_isAwaited 23 = .ok (.aload_n 0, 1) := by decide +kernel
theorem dX0_isAwaited_24 : decode cX0_isAwaited 24 = .ok (.getfield 71, 3) := by decide +kernel
theorem dX0_isAwaited_27 : decode cX0_isAwaited 27 = .ok (.getfield 176, 3) := by decide +kernel
theorem dX0_isAwaited_30 : decode cX0_isAwaited 30 = .ok (.iload_n 1, 1) := by decide +kernel
theorem dX0_isAwaited_31 : decode cX0_isAwaited 31 = .ok (.invokevirtual 205, 3) := by decide +kernel
theorem dX0_isAwaited_34 : decode cX0_isAwaited 34 = .ok (.ifCond .ne 7, 3) := by decide +kernel
theorem dX0_isAwaited_37 : decode cX0_isAwaited 37 = .ok (.iconst 1, 1) := by decide +kernel
theorem dX0_isAwaited_38 : decode cX0_isAwaited 38 = .ok (.goto 4, 3) := by decide +kernel
theorem dX0_isAwaited_41 : decode cX0_isAwaited 41 = .ok (.iconst 0, 1) := by decide +kernel
theorem dX0_isAwaited_42 : decode cX0_isAwaited 42 = .ok (.ireturn, 1) := by decide +kernel
theorem dX0_isAwaited_43 : decode cX0_isAwaited 43 = .ok (.aload_n 0, 1) := by decide +kernel
theorem dX0_isAwaited_44 : decode cX0_isAwaited 44 = .ok (.iload_n 1, 1) := by decide +kernel
theorem dX0_isAwaited_45 : decode cX0_isAwaited 45 = .ok (.invokevirtual 170, 3) := by decide +kernel
theorem dX0_isAwaited_48 : decode cX0_isAwaited 48 = .ok (.ifCond .ne 7, 3) := by decide +kernel
theorem dX0_isAwaited_51 : decode cX0_isAwaited 51 = .ok (.iconst 1, 1) := by decide +kernel
theorem dX0_isAwaited_52 : decode cX0_isAwaited 52 = .ok (.goto 4, 3) := by decide +kernel
theorem dX0_isAwaited_55 : decode cX0_isAwaited 55 = .ok (.iconst 0, 1) := by decide +kernel
theorem dX0_isAwaited_56 : decode cX0_isAwaited 56 = .ok (.ireturn, 1) := by decide +kernel
set_option maxRecDepth 20000 in
theorem ggX0_judgeRound_X1_clear : GoodIn wsX0_judgeRound wsX1_clear := goodIn_r _ [9, 10, 11, 12, 13, 14, 107, 108, 109, 110, 111, 112] (by decide +kernel) (by decide +kernel)
set_option maxRecDepth 20000 in
theorem gX0_judgeRound_X1_clear : GoodIn wsX0_judgeRound (wsV RX0 248 RX1 yX1_clear wsX1_clear) := goodIn_app (goodIn_of _ (by decide +kernel)) ggX0_judgeRound_X1_clear
set_option maxRecDepth 20000 in
theorem ggX0_judgeRound_X7_playerAt : GoodIn wsX0_judgeRound wsX7_playerAt := goodIn_r _ [19, 20, 21, 102, 103, 104, 105, 106] (by decide +kernel) (by decide +kernel)
set_option maxRecDepth 20000 in
theorem gX0_judgeRound_X7_playerAt : GoodIn wsX0_judgeRound (wsV RX0 209 RX7 yX7_playerAt wsX7_playerAt) := goodIn_app (goodIn_of _ (by decide +kernel)) ggX0_judgeRound_X7_playerAt
set_option maxRecDepth 20000 in
theorem ggX0_judgeRound_X0_scoreOf : GoodIn wsX0_judgeRound wsX0_scoreOf := goodIn_r _ [26, 27, 28, 29, 25, 30, 31, 32, 2, 33, 34, 35, 36, 37, 38, 39, 40, 41, 42, 43, 44, 45, 46, 47, 48, 49, 50, 51, 52, 53, 54, 55, 56, 57, 58, 59, 60, 61, 18, 62, 63, 64, 65, 66, 88, 89, 90, 91, 92, 93, 94, 95, 96, 97, 98, 99, 100, 101, 113, 114, 115, 102, 103, 104, 105, 106] (by decide +kernel) (by decide +kernel)
set_option maxRecDepth 20000 in
theorem gX0_judgeRound_X0_scoreOf : GoodIn wsX0_judgeRound (wsV RX0 167 RX0 yX0_scoreOf wsX0_scoreOf) := goodIn_app (goodIn_of _ (by decide +kernel)) ggX0_judgeRound_X0_scoreOf
set_option maxRecDepth 20000 in
theorem ggX0_judgeRound_X1_put : GoodIn wsX0_judgeRound wsX1_put := goodIn_r _ [70, 10, 64, 65, 66, 107, 108, 109, 110, 111, 112] (by decide +kernel) (by decide +kernel)
set_option maxRecDepth 20000 in
theorem gX0_judgeRound_X1_put : GoodIn wsX0_judgeRound (wsV RX0 251 RX1 yX1_put wsX1_put) := goodIn_app (goodIn_of _ (by decide +kernel)) ggX0_judgeRound_X1_put
set_option maxRecDepth 20000 in
theorem ggX0_judgeRound_X11_isBetween : GoodIn wsX0_judgeRound wsX11_isBetween := goodIn_r _ [66] (by decide +kernel) (by decide +kernel)
set_option maxRecDepth 20000 in
theorem gX0_judgeRound_X11_isBetween_n255 : GoodIn wsX0_judgeRound (wsX11_isBetween) := ggX0_judgeRound_X11_isBetween
set_option maxRecDepth 20000 in
theorem ggX0_judgeRound_X1_draw : GoodIn wsX0_judgeRound wsX1_draw := goodIn_r _ [74, 75, 76, 77, 78, 79, 10, 80, 81, 82, 8, 83, 84, 85, 86, 87, 107, 108, 109, 110, 111, 112] (by decide +kernel) (by decide +kernel)
set_option maxRecDepth 20000 in
theorem gX0_judgeRound_X1_draw : GoodIn wsX0_judgeRound (wsV RX0 259 RX1 yX1_draw wsX1_draw) := goodIn_app (goodIn_of _ (by decide +kernel)) ggX0_judgeRound_X1_draw
theorem dX0_judgeRound_0 : decode cX0_judgeRound 0 = .ok (.aload_n 0, 1) := by decide +kernel
theorem dX0_judgeRound_1 : decode cX0_judgeRound 1 = .ok (.getfield 81, 3) := by decide +kernel
theorem dX0_judgeRound_4 : decode cX0_judgeRound 4 = .ok (.invokevirtual 248, 3) := by decide +kernel
theorem dX0_judgeRound_7 : decode cX0_judgeRound 7 = .ok (.iconst 0, 1) := by decide +kernel
theorem dX0_judgeRound_8 : decode cX0_judgeRound 8 = .ok (.istore_n 1, 1) := by decide +kernel
theorem dX0_judgeRound_9 : decode cX0_judgeRound 9 = .ok (.iload_n 1, 1) := by decide +kernel
theorem dX0_judgeRound_10 : decode cX0_judgeRound 10 = .ok (.aload_n 0, 1) := by decide +kernel
theorem dX0_judgeRound_11 : decode cX0_judgeRound 11 = .ok (.getfield 57, 3) := by decide +kernel
theorem dX0_judgeRound_14 : decode cX0_judgeRound 14 = .ok (.getfield 139, 3) := by decide +kernel
theorem dX0_judgeRound_17 : decode cX0_judgeRound 17 = .ok (.if_icmp .ge 31, 3) := by decide +kernel
theorem dX0_judgeRound_20 : decode cX0_judgeRound 20 = .ok (.aload_n 0, 1) := by decide +kernel
theorem dX0_judgeRound_21 : decode cX0_judgeRound 21 = .ok (.getfield 57, 3) := by decide +kernel
theorem dX0_judgeRound_24 : decode cX0_judgeRound 24 = .ok (.iload_n 1, 1) := by decide +kernel
theorem dX0_judgeRound_25 : decode cX0_judgeRound 25 = .ok (.invokevirtual 209, 3) := by decide +kernel
theorem dX0_judgeRound_28 : decode cX0_judgeRound 28 = .ok (.istore_n 2, 1) := by decide +kernel
theorem dX0_judgeRound_29 : decode cX0_judgeRound 29 = .ok (.aload_n 0, 1) := by decide +kernel
theorem dX0_judgeRound_30 : decode cX0_judgeRound 30 = .ok (.getfield 81, 3) := by decide +kernel
theorem dX0_judgeRound_33 : decode cX0_judgeRound 33 = .ok (.iload_n 2, 1) := by decide +kernel
theorem dX0_judgeRound_34 : decode cX0_judgeRound 34 = .ok (.aload_n 0, 1) := by decide +kernel
theorem dX0_judgeRound_35 : decode cX0_judgeRound 35 = .ok (.iload_n 2, 1) := by decide +kernel
theorem dX0_judgeRound_36 : decode cX0_judgeRound 36 = .ok (.invokevirtual 167, 3) := by decide +kernel
theorem dX0_judgeRound_39 : decode cX0_judgeRound 39 = .ok (.invokevirtual 251, 3) := by decide +kernel
theorem dX0_judgeRound_42 : decode cX0_judgeRound 42 = .ok (.iinc 1 1, 3) := by decide +kernel
theorem dX0_judgeRound_45 : decode cX0_judgeRound 45 = .ok (.goto (-36), 3) := by decide +kernel
theorem dX0_judgeRound_48 : decode cX0_judgeRound 48 = .ok (.aload_n 0, 1) := by decide +kernel
theorem dX0_judgeRound_49 : decode cX0_judgeRound 49 = .ok (.getfield 81, 3) := by decide +kernel
theorem dX0_judgeRound_52 : decode cX0_judgeRound 52 = .ok (.aload_n 0, 1) := by decide +kernel
theorem dX0_judgeRound_53 : decode cX0_judgeRound 53 = .ok (.getfield 99, 3) := by decide +kernel
theorem dX0_judgeRound_56 : decode cX0_judgeRound 56 = .ok (.iconst 0, 1) := by decide +kernel
theorem dX0_judgeRound_57 : decode cX0_judgeRound 57 = .ok (.iconst 3, 1) := by decide +kernel
theorem dX0_judgeRound_58 : decode cX0_judgeRound 58 = .ok (.invokestatic 255, 3) := by decide +kernel
theorem dX0_judgeRound_61 : decode cX0_judgeRound 61 = .ok (.ifCond .eq 17, 3) := by decide +kernel
theorem dX0_judgeRound_64 : decode cX0_judgeRound 64 = .ok (.aload_n 0, 1) := by decide +kernel
theorem dX0_judgeRound_65 : decode cX0_judgeRound 65 = .ok (.getfield 37, 3) := by decide +kernel
theorem dX0_judgeRound_68 : decode cX0_judgeRound 68 = .ok (.aload_n 0, 1) := by decide +kernel
theorem dX0_judgeRound_69 : decode cX0_judgeRound 69 = .ok (.getfield 99, 3) := by decide +kernel
theorem dX0_judgeRound_72 : decode cX0_judgeRound 72 = .ok (.aaload, 1) := by decide +kernel
theorem dX0_judgeRound_73 : decode cX0_judgeRound 73 = .ok (.iconst 5, 1) := by decide +kernel
theorem dX0_judgeRound_74 : decode cX0_judgeRound 74 = .ok (.iaload, 1) := by decide +kernel
theorem dX0_judgeRound_75 : decode cX0_judgeRound 75 = .ok (.goto 5, 3) := by decide +kernel
theorem dX0_judgeRound_78 : decode cX0_judgeRound 78 = .ok (.bipush 12, 2) := by decide +kernel
theorem dX0_judgeRound_80 : decode cX0_judgeRound 80 = .ok (.invokevirtual 259, 3) := by decide +kernel
theorem dX0_judgeRound_83 : decode cX0_judgeRound 83 = .ok (.return_, 1) := by decide +kernel
set_option maxRecDepth 20000 in
theorem ggX0_judgeTieRound_X1_clear : GoodIn wsX0_judgeTieRound wsX1_clear := goodIn_r _ [9, 10, 11, 12, 13, 14, 93, 94, 95, 96, 97, 98] (by decide +kernel) (by decide +kernel)
set_option maxRecDepth 20000 in
theorem gX0_judgeTieRound_X1_clear : GoodIn wsX0_judgeTieRound (wsV RX0 248 RX1 yX1_clear wsX1_clear) := goodIn_app (goodIn_of _ (by decide +kernel)) ggX0_judgeTieRound_X1_clear
set_option maxRecDepth 20000 in
theorem ggX0_judgeTieRound_X9_has : GoodIn wsX0_judgeTieRound wsX9_has := goodIn_r _ [19, 20, 21, 22, 23, 89, 90, 91, 92] (by decide +kernel) (by decide +kernel)
set_option maxRecDepth 20000 in
theorem gX0_judgeTieRound_X9_has : GoodIn wsX0_judgeTieRound (wsV RX0 173 RX9 yX9_has wsX9_has) := goodIn_app (goodIn_of _ (by decide +kernel)) ggX0_judgeTieRound_X9_has
set_option maxRecDepth 20000 in
theorem ggX0_judgeTieRound_X3_meanOf : GoodIn wsX0_judgeTieRound wsX3_meanOf := goodIn_r _ [28, 29, 30, 31, 27, 32, 33, 34, 35, 36, 37, 38, 39, 40, 41, 42, 43, 44, 45, 46, 47, 48, 49, 50, 51, 99, 100, 101] (by decide +kernel) (by decide +kernel)
set_option maxRecDepth 20000 in
theorem gX0_judgeTieRound_X3_meanOf : GoodIn wsX0_judgeTieRound (wsV RX0 177 RX3 yX3_meanOf wsX3_meanOf) := goodIn_app (goodIn_of _ (by decide +kernel)) ggX0_judgeTieRound_X3_meanOf
set_option maxRecDepth 20000 in
theorem ggX0_judgeTieRound_X1_put : GoodIn wsX0_judgeTieRound wsX1_put := goodIn_r _ [55, 10, 21, 22, 23, 93, 94, 95, 96, 97, 98] (by decide +kernel) (by decide +kernel)
set_option maxRecDepth 20000 in
theorem gX0_judgeTieRound_X1_put : GoodIn wsX0_judgeTieRound (wsV RX0 251 RX1 yX1_put wsX1_put) := goodIn_app (goodIn_of _ (by decide +kernel)) ggX0_judgeTieRound_X1_put
set_option maxRecDepth 20000 in
theorem ggX0_judgeTieRound_X1_draw : GoodIn wsX0_judgeTieRound wsX1_draw := goodIn_r _ [59, 60, 61, 62, 63, 64, 10, 65, 66, 67, 8, 68, 69, 70, 71, 72, 93, 94, 95, 96, 97, 98] (by decide +kernel) (by decide +kernel)
set_option maxRecDepth 20000 in
theorem gX0_judgeTieRound_X1_draw : GoodIn wsX0_judgeTieRound (wsV RX0 259 RX1 yX1_draw wsX1_draw) := goodIn_app (goodIn_of _ (by decide +kernel)) ggX0_judgeTieRound_X1_draw
theorem dX0_judgeTieRound_0 : decode cX0_judgeTieRound 0 = .ok (.aload_n 0, 1) := by decide +kernel
theorem dX0_judgeTieRound_1 : decode cX0_judgeTieRound 1 = .ok (.getfield 81, 3) := by decide +kernel
theorem dX0_judgeTieRound_4 : decode cX0_judgeTieRound 4 = .ok (.invokevirtual 248, 3) := by decide +kernel
theorem dX0_judgeTieRound_7 : decode cX0_judgeTieRound 7 = .ok (.iconst 0, 1) := by decide +kernel
theorem dX0_judgeTieRound_8 : decode cX0_judgeTieRound 8 = .ok (.istore_n 1, 1) := by decide +kernel
theorem dX0_judgeTieRound_9 : decode cX0_judgeTieRound 9 = .ok (.iload_n 1, 1) := by decide +kernel
theorem dX0_judgeTieRound_10 : decode cX0_judgeTieRound 10 = .ok (.aload_n 0, 1) := by decide +kernel
theorem dX0_judgeTieRound_11 : decode cX0_judgeTieRound 11 = .ok (.getfield 31, 3) := by decide +kernel
theorem dX0_judgeTieRound_14 : decode cX0_judgeTieRound 14 = .ok (.getfield 134, 3) := by decide +kernel
theorem dX0_judgeTieRound_17 : decode cX0_judgeTieRound 17 = .ok (.if_icmp .ge 43, 3) := by decide +kernel
theorem dX0_judgeTieRound_20 : decode cX0_judgeTieRound 20 = .ok (.aload_n 0, 1) := by decide +kernel
theorem dX0_judgeTieRound_21 : decode cX0_judgeTieRound 21 = .ok (.getfield 71, 3) := by decide +kernel
theorem dX0_judgeTieRound_24 : decode cX0_judgeTieRound 24 = .ok (.iload_n 1, 1) := by decide +kernel
theorem dX0_judgeTieRound_25 : decode cX0_judgeTieRound 25 = .ok (.invokevirtual 173, 3) := by decide +kernel
theorem dX0_judgeTieRound_28 : decode cX0_judgeTieRound 28 = .ok (.ifCond .eq 26, 3) := by decide +kernel
theorem dX0_judgeTieRound_31 : decode cX0_judgeTieRound 31 = .ok (.aload_n 0, 1) := by decide +kernel
theorem dX0_judgeTieRound_32 : decode cX0_judgeTieRound 32 = .ok (.getfield 81, 3) := by decide +kernel
theorem dX0_judgeTieRound_35 : decode cX0_judgeTieRound 35 = .ok (.iload_n 1, 1) := by decide +kernel
theorem dX0_judgeTieRound_36 : decode cX0_judgeTieRound 36 = .ok (.aload_n 0, 1) := by decide +kernel
theorem dX0_judgeTieRound_37 : decode cX0_judgeTieRound 37 = .ok (.getfield 50, 3) := by decide +kernel
theorem dX0_judgeTieRound_40 : decode cX0_judgeTieRound 40 = .ok (.aload_n 0, 1) := by decide +kernel
theorem dX0_judgeTieRound_41 : decode cX0_judgeTieRound 41 = .ok (.getfield 71, 3) := by decide +kernel
theorem dX0_judgeTieRound_44 : decode cX0_judgeTieRound 44 = .ok (.getfield 176, 3) := by decide +kernel
theorem dX0_judgeTieRound_47 : decode cX0_judgeTieRound 47 = .ok (.iload_n 1, 1) := by decide +kernel
theorem dX0_judgeTieRound_48 : decode cX0_judgeTieRound 48 = .ok (.invokevirtual 177, 3) := by decide +kernel
theorem dX0_judgeTieRound_51 : decode cX0_judgeTieRound 51 = .ok (.invokevirtual 251, 3) := by decide +kernel
theorem dX0_judgeTieRound_54 : decode cX0_judgeTieRound 54 = .ok (.iinc 1 1, 3) := by decide +kernel
theorem dX0_judgeTieRound_57 : decode cX0_judgeTieRound 57 = .ok (.goto (-48), 3) := by decide +kernel
theorem dX0_judgeTieRound_60 : decode cX0_judgeTieRound 60 = .ok (.aload_n 0, 1) := by decide +kernel
theorem dX0_judgeTieRound_61 : decode cX0_judgeTieRound 61 = .ok (.getfield 81, 3) := by decide +kernel
theorem dX0_judgeTieRound_64 : decode cX0_judgeTieRound 64 = .ok (.aload_n 0, 1) := by decide +kernel
theorem dX0_judgeTieRound_65 : decode cX0_judgeTieRound 65 = .ok (.getfield 71, 3) := by decide +kernel
theorem dX0_judgeTieRound_68 : decode cX0_judgeTieRound 68 = .ok (.getfield 147, 3) := by decide +kernel
theorem dX0_judgeTieRound_71 : decode cX0_judgeTieRound 71 = .ok (.invokevirtual 259, 3) := by decide +kernel
theorem dX0_judgeTieRound_74 : decode cX0_judgeTieRound 74 = .ok (.return_, 1) := by decide +kernel
set_option maxRecDepth 20000 in
theorem ggX0_decideRound_X0_judgeRound : GoodIn wsX0_decideRound wsX0_judgeRound := goodIn_r _ [8, 2, 9, 1, 10, 11, 12, 13, 14, 15, 16, 17, 18, 19, 20, 21, 22, 23, 24, 25, 26, 27, 28, 29, 30, 7, 31, 32, 33, 34, 35, 36, 37, 38, 39, 40, 41, 42, 43, 44, 45, 46, 47, 48, 49, 50, 51, 52, 53, 54, 55, 56, 57, 58, 59, 60, 61, 62, 63, 64, 65, 66, 67, 68, 69, 70, 71, 72, 73, 74, 75, 76, 77, 78, 79, 80, 81, 82, 83, 84, 85, 86, 87, 88, 89, 90, 91, 92, 157, 158, 159, 160, 161, 162, 163, 164, 165, 166, 167, 168, 169, 170, 177, 178, 179, 180, 181, 171, 172, 173, 174, 175, 176, 182, 183, 184] (by decide +kernel) (by decide +kernel)
set_option maxRecDepth 20000 in
theorem gX0_decideRound_X0_judgeRound : GoodIn wsX0_decideRound (wsV RX0 262 RX0 yX0_judgeRound wsX0_judgeRound) := goodIn_app (goodIn_of _ (by decide +kernel)) ggX0_decideRound_X0_judgeRound
set_option maxRecDepth 20000 in
theorem ggX0_decideRound_X11_isBetween : GoodIn wsX0_decideRound wsX11_isBetween := goodIn_r _ [71] (by decide +kernel) (by decide +kernel)
set_option maxRecDepth 20000 in
theorem gX0_decideRound_X11_isBetween_n255 : GoodIn wsX0_decideRound (wsX11_isBetween) := ggX0_decideRound_X11_isBetween
set_option maxRecDepth 20000 in
theorem ggX0_decideRound_X11_copyRow : GoodIn wsX0_decideRound wsX11_copyRow := goodIn_r _ [94, 95, 50, 40, 51, 96, 97, 98, 99] (by decide +kernel) (by decide +kernel)
set_option maxRecDepth 20000 in
theorem gX0_decideRound_X11_copyRow_n89 : GoodIn wsX0_decideRound (wsX11_copyRow) := ggX0_decideRound_X11_copyRow
set_option maxRecDepth 20000 in
theorem ggX0_decideRound_X0_applyCut : GoodIn wsX0_decideRound wsX0_applyCut := goodIn_r _ [103, 2, 104, 105, 106, 107, 108, 7, 109, 110, 111, 112, 113, 14, 114, 81, 115, 116, 117, 118, 16, 69, 70, 71, 119, 120, 121, 122, 123, 124, 125, 126, 127, 128, 129, 130, 131, 132, 133, 82, 83, 80, 134, 135, 136, 137, 138, 139, 140, 141, 142, 143, 144, 145, 146, 147, 148, 149, 150, 151, 152, 153, 154, 56, 155, 58, 156, 18, 19, 20, 157, 158, 159, 160, 161, 162, 163, 164, 165, 166, 167, 168, 169, 170, 185, 186, 171, 172, 173, 174, 175, 176, 187, 188, 189, 190, 184] (by decide +kernel) (by decide +kernel)
set_option maxRecDepth 20000 in
theorem gX0_decideRound_X0_applyCut : GoodIn wsX0_decideRound (wsV RX0 268 RX0 yX0_applyCut wsX0_applyCut) := goodIn_app (goodIn_of _ (by decide +kernel)) ggX0_decideRound_X0_applyCut
theorem dX0_decideRound_0 : decode cX0_decideRound 0 = .ok (.aload_n 0, 1) := by decide +kernel
theorem dX0_decideRound_1 : decode cX0_decideRound 1 = .ok (.invokevirtual 262, 3) := by decide +kernel
theorem dX0_decideRound_4 : decode cX0_decideRound 4 = .ok (.aload_n 0, 1) := by decide +kernel
theorem dX0_decideRound_5 : decode cX0_decideRound 5 = .ok (.getfield 99, 3) := by decide +kernel
theorem dX0_decideRound_8 : decode cX0_decideRound 8 = .ok (.iconst 0, 1) := by decide +kernel
theorem dX0_decideRound_9 : decode cX0_decideRound 9 = .ok (.iconst 3, 1) := by decide +kernel
theorem dX0_decideRound_10 : decode cX0_decideRound 10 = .ok (.invokestatic 255, 3) := by decide +kernel
theorem dX0_decideRound_13 : decode cX0_decideRound 13 = .ok (.ifCond .eq 22, 3) := by decide +kernel
theorem dX0_decideRound_16 : decode cX0_decideRound 16 = .ok (.aload_n 0, 1) := by decide +kernel
theorem dX0_decideRound_17 : decode cX0_decideRound 17 = .ok (.getfield 81, 3) := by decide +kernel
theorem dX0_decideRound_20 : decode cX0_decideRound 20 = .ok (.getfield 265, 3) := by decide +kernel
theorem dX0_decideRound_23 : decode cX0_decideRound 23 = .ok (.aload_n 0, 1) := by decide +kernel
theorem dX0_decideRound_24 : decode cX0_decideRound 24 = .ok (.getfield 75, 3) := by decide +kernel
theorem dX0_decideRound_27 : decode cX0_decideRound 27 = .ok (.aload_n 0, 1) := by decide +kernel
theorem dX0_decideRound_28 : decode cX0_decideRound 28 = .ok (.getfield 99, 3) := by decide +kernel
theorem dX0_decideRound_31 : decode cX0_decideRound 31 = .ok (.aaload, 1) := by decide +kernel
theorem dX0_decideRound_32 : decode cX0_decideRound 32 = .ok (.invokestatic 89, 3) := by decide +kernel
theorem dX0_decideRound_35 : decode cX0_decideRound 35 = .ok (.aload_n 0, 1) := by decide +kernel
theorem dX0_decideRound_36 : decode cX0_decideRound 36 = .ok (.invokevirtual 268, 3) := by decide +kernel
theorem dX0_decideRound_39 : decode cX0_decideRound 39 = .ok (.ireturn, 1) := by decide +kernel
set_option maxRecDepth 20000 in
theorem ggX0_decideTieRound_X0_judgeTieRound : GoodIn wsX0_decideTieRound wsX0_judgeTieRound := goodIn_r _ [6, 7, 8, 1, 9, 10, 11, 12, 13, 14, 15, 16, 17, 18, 19, 20, 21, 22, 23, 24, 25, 26, 27, 28, 29, 30, 31, 32, 33, 34, 35, 36, 37, 38, 39, 40, 41, 42, 43, 44, 45, 46, 47, 48, 49, 50, 51, 52, 53, 54, 55, 56, 57, 58, 59, 60, 61, 62, 63, 64, 65, 66, 67, 68, 69, 70, 71, 72, 73, 74, 75, 76, 77, 145, 146, 147, 148, 149, 150, 151, 152, 153, 154, 155, 156, 157, 158, 163, 164, 159, 160, 161, 162, 165, 166, 167, 168, 169, 170, 171, 172, 173] (by decide +kernel) (by decide +kernel)
set_option maxRecDepth 20000 in
theorem gX0_decideTieRound_X0_judgeTieRound : GoodIn wsX0_decideTieRound (wsV RX0 272 RX0 yX0_judgeTieRound wsX0_judgeTieRound) := goodIn_app (goodIn_of _ (by decide +kernel)) ggX0_decideTieRound_X0_judgeTieRound
set_option maxRecDepth 20000 in
theorem ggX0_decideTieRound_X0_applyCut : GoodIn wsX0_decideTieRound wsX0_applyCut := goodIn_r _ [81, 7, 1, 82, 83, 84, 85, 5, 86, 8, 87, 88, 89, 13, 90, 66, 91, 92, 93, 94, 15, 26, 27, 28, 95, 96, 97, 98, 99, 100, 101, 102, 103, 104, 105, 106, 107, 108, 109, 67, 68, 65, 110, 111, 112, 23, 113, 114, 115, 25, 116, 117, 118, 119, 120, 121, 122, 123, 124, 125, 126, 127, 128, 49, 129, 51, 130, 17, 18, 19, 145, 146, 147, 148, 149, 150, 151, 152, 153, 154, 155, 156, 157, 158, 163, 164, 165, 166, 167, 168, 169, 170, 159, 160, 161, 162, 173] (by decide +kernel) (by decide +kernel)
set_option maxRecDepth 20000 in
theorem gX0_decideTieRound_X0_applyCut : GoodIn wsX0_decideTieRound (wsV RX0 268 RX0 yX0_applyCut wsX0_applyCut) := goodIn_app (goodIn_of _ (by decide +kernel)) ggX0_decideTieRound_X0_applyCut
set_option maxRecDepth 20000 in
theorem ggX0_decideTieRound_X0_putOutThoseBelow : GoodIn wsX0_decideTieRound wsX0_putOutThoseBelow := goodIn_r _ [86, 8, 7, 87, 88, 89, 13, 90, 66, 91, 92, 93, 94, 15, 26, 27, 28, 95, 96, 97, 98, 99, 100, 101, 102, 103, 104, 105, 145, 146, 147, 148, 149, 150, 151, 152, 153, 154, 155, 156, 157, 158, 163, 164, 165, 166, 167, 168, 169, 170] (by decide +kernel) (by decide +kernel)
set_option maxRecDepth 20000 in
theorem gX0_decideTieRound_X0_putOutThoseBelow : GoodIn wsX0_decideTieRound (wsV RX0 275 RX0 yX0_putOutThoseBelow wsX0_putOutThoseBelow) := goodIn_app (goodIn_of _ (by decide +kernel)) ggX0_decideTieRound_X0_putOutThoseBelow
set_option maxRecDepth 20000 in
theorem ggX0_decideTieRound_X0_breakTieByStageOrder : GoodIn wsX0_decideTieRound wsX0_breakTieByStageOrder := goodIn_r _ [134, 7, 135, 8, 136, 118, 119, 13, 120, 65, 67, 137, 138, 139, 140, 141, 142, 143, 144, 122, 123, 124, 66, 125, 107, 108, 109, 68, 91, 92, 93, 94, 15, 26, 27, 28, 95, 96, 97, 98, 99, 100, 101, 102, 103, 104, 105, 145, 146, 147, 148, 149, 150, 151, 152, 153, 154, 155, 156, 157, 158, 174, 175, 176, 177, 178, 165, 166, 167, 168, 169, 170, 163, 164] (by decide +kernel) (by decide +kernel)
set_option maxRecDepth 20000 in
theorem gX0_decideTieRound_X0_breakTieByStageOrder : GoodIn wsX0_decideTieRound (wsV RX0 278 RX0 yX0_breakTieByStageOrder wsX0_breakTieByStageOrder) := goodIn_app (goodIn_of _ (by decide +kernel)) ggX0_decideTieRound_X0_breakTieByStageOrder
theorem dX0_decideTieRound_0 : decode cX0_decideTieRound 0 = .ok (.aload_n 0, 1) := by decide +kernel
theorem dX0_decideTieRound_1 : decode cX0_decideTieRound 1 = .ok (.invokevirtual 272, 3) := by decide +kernel
theorem dX0_decideTieRound_4 : decode cX0_decideTieRound 4 = .ok (.aload_n 0, 1) := by decide +kernel
theorem dX0_decideTieRound_5 : decode cX0_decideTieRound 5 = .ok (.getfield 71, 3) := by decide +kernel
theorem dX0_decideTieRound_8 : decode cX0_decideTieRound 8 = .ok (.getfield 150, 3) := by decide +kernel
theorem dX0_decideTieRound_11 : decode cX0_decideTieRound 11 = .ok (.iconst 3, 1) := by decide +kernel
theorem dX0_decideTieRound_12 : decode cX0_decideTieRound 12 = .ok (.if_icmp .ge 8, 3) := by decide +kernel
theorem dX0_decideTieRound_15 : decode cX0_decideTieRound 15 = .ok (.aload_n 0, 1) := by decide +kernel
theorem dX0_decideTieRound_16 : decode cX0_decideTieRound 16 = .ok (.invokevirtual 268, 3) := by decide +kernel
theorem dX0_decideTieRound_19 : decode cX0_decideTieRound 19 = .ok (.ireturn, 1) := by decide +kernel
theorem dX0_decideTieRound_20 : decode cX0_decideTieRound 20 = .ok (.aload_n 0, 1) := by decide +kernel
theorem dX0_decideTieRound_21 : decode cX0_decideTieRound 21 = .ok (.invokevirtual 275, 3) := by decide +kernel
theorem dX0_decideTieRound_24 : decode cX0_decideTieRound 24 = .ok (.aload_n 0, 1) := by decide +kernel
theorem dX0_decideTieRound_25 : decode cX0_decideTieRound 25 = .ok (.invokevirtual 278, 3) := by decide +kernel
theorem dX0_decideTieRound_28 : decode cX0_decideTieRound 28 = .ok (.iconst 1, 1) := by decide +kernel
theorem dX0_decideTieRound_29 : decode cX0_decideTieRound 29 = .ok (.ireturn, 1) := by decide +kernel
set_option maxRecDepth 20000 in
theorem ggX0_applyCut_X0_putOutThoseBelow : GoodIn wsX0_applyCut wsX0_putOutThoseBelow := goodIn_r _ [8, 9, 1, 10, 11, 12, 13, 14, 15, 16, 17, 18, 19, 20, 21, 22, 23, 24, 25, 26, 27, 28, 29, 30, 31, 32, 33, 34, 70, 71, 72, 73, 74, 75, 76, 77, 78, 79, 80, 81, 82, 83, 84, 85, 86, 87, 88, 89, 90, 91] (by decide +kernel) (by decide +kernel)
set_option maxRecDepth 20000 in
theorem gX0_applyCut_X0_putOutThoseBelow : GoodIn wsX0_applyCut (wsV RX0 275 RX0 yX0_putOutThoseBelow wsX0_putOutThoseBelow) := goodIn_app (goodIn_of _ (by decide +kernel)) ggX0_applyCut_X0_putOutThoseBelow
set_option maxRecDepth 20000 in
theorem ggX0_applyCut_X1_leavesTie : GoodIn wsX0_applyCut wsX1_leavesTie := goodIn_r _ [38, 39, 40, 41, 86, 87, 88, 89, 90, 91] (by decide +kernel) (by decide +kernel)
set_option maxRecDepth 20000 in
theorem gX0_applyCut_X1_leavesTie : GoodIn wsX0_applyCut (wsV RX0 281 RX1 yX1_leavesTie wsX1_leavesTie) := goodIn_app (goodIn_of _ (by decide +kernel)) ggX0_applyCut_X1_leavesTie
set_option maxRecDepth 20000 in
theorem ggX0_applyCut_X9_startNext : GoodIn wsX0_applyCut wsX9_startNext := goodIn_r _ [46, 47, 48, 49, 50, 51, 52, 53, 13, 54, 41, 39, 55, 56, 57, 58, 15, 59, 36, 37, 38, 40, 16, 17, 18, 19, 20, 21, 22, 23, 60, 61, 62, 63, 64, 65, 66, 67, 68, 69, 92, 93, 94, 95, 86, 87, 88, 89, 90, 91, 96] (by decide +kernel) (by decide +kernel)
set_option maxRecDepth 20000 in
theorem gX0_applyCut_X9_startNext : GoodIn wsX0_applyCut (wsV RX0 284 RX9 yX9_startNext wsX9_startNext) := goodIn_app (goodIn_of _ (by decide +kernel)) ggX0_applyCut_X9_startNext
theorem dX0_applyCut_0 : decode cX0_applyCut 0 = .ok (.aload_n 0, 1) := by decide +kernel
theorem dX0_applyCut_1 : decode cX0_applyCut 1 = .ok (.invokevirtual 275, 3) := by decide +kernel
theorem dX0_applyCut_4 : decode cX0_applyCut 4 = .ok (.aload_n 0, 1) := by decide +kernel
theorem dX0_applyCut_5 : decode cX0_applyCut 5 = .ok (.getfield 81, 3) := by decide +kernel
theorem dX0_applyCut_8 : decode cX0_applyCut 8 = .ok (.invokevirtual 281, 3) := by decide +kernel
theorem dX0_applyCut_11 : decode cX0_applyCut 11 = .ok (.ifCond .ne 5, 3) := by decide +kernel
theorem dX0_applyCut_14 : decode cX0_applyCut 14 = .ok (.iconst 1, 1) := by decide +kernel
theorem dX0_applyCut_15 : decode cX0_applyCut 15 = .ok (.ireturn, 1) := by decide +kernel
theorem dX0_applyCut_16 : decode cX0_applyCut 16 = .ok (.aload_n 0, 1) := by decide +kernel
theorem dX0_applyCut_17 : decode cX0_applyCut 17 = .ok (.getfield 71, 3) := by decide +kernel
theorem dX0_applyCut_20 : decode cX0_applyCut 20 = .ok (.aload_n 0, 1) := by decide +kernel
theorem dX0_applyCut_21 : decode cX0_applyCut 21 = .ok (.getfield 81, 3) := by decide +kernel
theorem dX0_applyCut_24 : decode cX0_applyCut 24 = .ok (.invokevirtual 284, 3) := by decide +kernel
theorem dX0_applyCut_27 : decode cX0_applyCut 27 = .ok (.aload_n 0, 1) := by decide +kernel
theorem dX0_applyCut_28 : decode cX0_applyCut 28 = .ok (.iconst 2, 1) := by decide +kernel
theorem dX0_applyCut_29 : decode cX0_applyCut 29 = .ok (.putfield 9, 3) := by decide +kernel
theorem dX0_applyCut_32 : decode cX0_applyCut 32 = .ok (.iconst 0, 1) := by decide +kernel
theorem dX0_applyCut_33 : decode cX0_applyCut 33 = .ok (.ireturn, 1) := by decide +kernel
set_option maxRecDepth 20000 in
theorem ggX0_putOutThoseBelow_X1_isOut : GoodIn wsX0_putOutThoseBelow wsX1_isOut := goodIn_r _ [7, 8, 9, 10, 11, 6, 12, 13, 14, 15, 16, 44, 45, 46, 47, 48, 49] (by decide +kernel) (by decide +kernel)
set_option maxRecDepth 20000 in
theorem gX0_putOutThoseBelow_X1_isOut : GoodIn wsX0_putOutThoseBelow (wsV RX0 288 RX1 yX1_isOut wsX1_isOut) := goodIn_app (goodIn_of _ (by decide +kernel)) ggX0_putOutThoseBelow_X1_isOut
set_option maxRecDepth 20000 in
theorem ggX0_putOutThoseBelow_X2_putOut : GoodIn wsX0_putOutThoseBelow wsX2_putOut := goodIn_r _ [21, 22, 23, 24, 25, 20, 26, 27, 42, 43] (by decide +kernel) (by decide +kernel)
set_option maxRecDepth 20000 in
theorem gX0_putOutThoseBelow_X2_putOut : GoodIn wsX0_putOutThoseBelow (wsV RX0 236 RX2 yX2_putOut wsX2_putOut) := goodIn_app (goodIn_of _ (by decide +kernel)) ggX0_putOutThoseBelow_X2_putOut
theorem dX0_putOutThoseBelow_0 : decode cX0_putOutThoseBelow 0 = .ok (.iconst 0, 1) := by decide +kernel
theorem dX0_putOutThoseBelow_1 : decode cX0_putOutThoseBelow 1 = .ok (.istore_n 1, 1) := by decide +kernel
theorem dX0_putOutThoseBelow_2 : decode cX0_putOutThoseBelow 2 = .ok (.iload_n 1, 1) := by decide +kernel
theorem dX0_putOutThoseBelow_3 : decode cX0_putOutThoseBelow 3 = .ok (.aload_n 0, 1) := by decide +kernel
theorem dX0_putOutThoseBelow_4 : decode cX0_putOutThoseBelow 4 = .ok (.getfield 31, 3) := by decide +kernel
theorem dX0_putOutThoseBelow_7 : decode cX0_putOutThoseBelow 7 = .ok (.getfield 134, 3) := by decide +kernel
theorem dX0_putOutThoseBelow_10 : decode cX0_putOutThoseBelow 10 = .ok (.if_icmp .ge 28, 3) := by decide +kernel
theorem dX0_putOutThoseBelow_13 : decode cX0_putOutThoseBelow 13 = .ok (.aload_n 0, 1) := by decide +kernel
theorem dX0_putOutThoseBelow_14 : decode cX0_putOutThoseBelow 14 = .ok (.getfield 81, 3) := by decide +kernel
theorem dX0_putOutThoseBelow_17 : decode cX0_putOutThoseBelow 17 = .ok (.iload_n 1, 1) := by decide +kernel
theorem dX0_putOutThoseBelow_18 : decode cX0_putOutThoseBelow 18 = .ok (.invokevirtual 288, 3) := by decide +kernel
theorem dX0_putOutThoseBelow_21 : decode cX0_putOutThoseBelow 21 = .ok (.ifCond .eq 11, 3) := by decide +kernel
theorem dX0_putOutThoseBelow_24 : decode cX0_putOutThoseBelow 24 = .ok (.aload_n 0, 1) := by decide +kernel
theorem dX0_putOutThoseBelow_25 : decode cX0_putOutThoseBelow 25 = .ok (.getfield 31, 3) := by decide +kernel
theorem dX0_putOutThoseBelow_28 : decode cX0_putOutThoseBelow 28 = .ok (.iload_n 1, 1) := by decide +kernel
theorem dX0_putOutThoseBelow_29 : decode cX0_putOutThoseBelow 29 = .ok (.invokevirtual 236, 3) := by decide +kernel
theorem dX0_putOutThoseBelow_32 : decode cX0_putOutThoseBelow 32 = .ok (.iinc 1 1, 3) := by decide +kernel
theorem dX0_putOutThoseBelow_35 : decode cX0_putOutThoseBelow 35 = .ok (.goto (-33), 3) := by decide +kernel
theorem dX0_putOutThoseBelow_38 : decode cX0_putOutThoseBelow 38 = .ok (.return_, 1) := by decide +kernel
set_option maxRecDepth 20000 in
theorem ggX0_breakTieByStageOrder_X1_placesLeft : GoodIn wsX0_breakTieByStageOrder wsX1_placesLeft := goodIn_r _ [8, 9, 10, 66, 67, 68, 69, 70, 71] (by decide +kernel) (by decide +kernel)
set_option maxRecDepth 20000 in
theorem gX0_breakTieByStageOrder_X1_placesLeft : GoodIn wsX0_breakTieByStageOrder (wsV RX0 291 RX1 yX1_placesLeft wsX1_placesLeft) := goodIn_app (goodIn_of _ (by decide +kernel)) ggX0_breakTieByStageOrder_X1_placesLeft
set_option maxRecDepth 20000 in
theorem ggX0_breakTieByStageOrder_X7_playerAt : GoodIn wsX0_breakTieByStageOrder wsX7_playerAt := goodIn_r _ [15, 16, 17, 61, 62, 63, 64, 65] (by decide +kernel) (by decide +kernel)
set_option maxRecDepth 20000 in
theorem gX0_breakTieByStageOrder_X7_playerAt : GoodIn wsX0_breakTieByStageOrder (wsV RX0 209 RX7 yX7_playerAt wsX7_playerAt) := goodIn_app (goodIn_of _ (by decide +kernel)) ggX0_breakTieByStageOrder_X7_playerAt
set_option maxRecDepth 20000 in
theorem ggX0_breakTieByStageOrder_X1_isTied : GoodIn wsX0_breakTieByStageOrder wsX1_isTied := goodIn_r _ [21, 22, 23, 24, 25, 7, 26, 10, 27, 9, 28, 29, 30, 31, 32, 33, 34, 35, 66, 67, 68, 69, 70, 71] (by decide +kernel) (by decide +kernel)
set_option maxRecDepth 20000 in
theorem gX0_breakTieByStageOrder_X1_isTied : GoodIn wsX0_breakTieByStageOrder (wsV RX0 294 RX1 yX1_isTied wsX1_isTied) := goodIn_app (goodIn_of _ (by decide +kernel)) ggX0_breakTieByStageOrder_X1_isTied
set_option maxRecDepth 20000 in
theorem ggX0_breakTieByStageOrder_X2_putOut : GoodIn wsX0_breakTieByStageOrder wsX2_putOut := goodIn_r _ [40, 41, 42, 43, 44, 39, 45, 46, 72, 73] (by decide +kernel) (by decide +kernel)
set_option maxRecDepth 20000 in
theorem gX0_breakTieByStageOrder_X2_putOut : GoodIn wsX0_breakTieByStageOrder (wsV RX0 236 RX2 yX2_putOut wsX2_putOut) := goodIn_app (goodIn_of _ (by decide +kernel)) ggX0_breakTieByStageOrder_X2_putOut
theorem dX0_breakTieByStageOrder_0 : decode cX0_breakTieByStageOrder 0 = .ok (.aload_n 0, 1) := by decide +kernel
theorem dX0_breakTieByStageOrder_1 : decode cX0_breakTieByStageOrder 1 = .ok (.getfield 81, 3) := by decide +kernel
theorem dX0_breakTieByStageOrder_4 : decode cX0_breakTieByStageOrder 4 = .ok (.invokevirtual 291, 3) := by decide +kernel
theorem dX0_breakTieByStageOrder_7 : decode cX0_breakTieByStageOrder 7 = .ok (.istore_n 1, 1) := by decide +kernel
theorem dX0_breakTieByStageOrder_8 : decode cX0_breakTieByStageOrder 8 = .ok (.iconst 0, 1) := by decide +kernel
theorem dX0_breakTieByStageOrder_9 : decode cX0_breakTieByStageOrder 9 = .ok (.istore_n 2, 1) := by decide +kernel
theorem dX0_breakTieByStageOrder_10 : decode cX0_breakTieByStageOrder 10 = .ok (.iload_n 2, 1) := by decide +kernel
theorem dX0_breakTieByStageOrder_11 : decode cX0_breakTieByStageOrder 11 = .ok (.aload_n 0, 1) := by decide +kernel
theorem dX0_breakTieByStageOrder_12 : decode cX0_breakTieByStageOrder 12 = .ok (.getfield 57, 3) := by decide +kernel
theorem dX0_breakTieByStageOrder_15 : decode cX0_breakTieByStageOrder 15 = .ok (.getfield 139, 3) := by decide +kernel
theorem dX0_breakTieByStageOrder_18 : decode cX0_breakTieByStageOrder 18 = .ok (.if_icmp .ge 44, 3) := by decide +kernel
theorem dX0_breakTieByStageOrder_21 : decode cX0_breakTieByStageOrder 21 = .ok (.aload_n 0, 1) := by decide +kernel
theorem dX0_breakTieByStageOrder_22 : decode cX0_breakTieByStageOrder 22 = .ok (.getfield 57, 3) := by decide +kernel
theorem dX0_breakTieByStageOrder_25 : decode cX0_breakTieByStageOrder 25 = .ok (.iload_n 2, 1) := by decide +kernel
theorem dX0_breakTieByStageOrder_26 : decode cX0_breakTieByStageOrder 26 = .ok (.invokevirtual 209, 3) := by decide +kernel
theorem dX0_breakTieByStageOrder_29 : decode cX0_breakTieByStageOrder 29 = .ok (.istore_n 3, 1) := by decide +kernel
theorem dX0_breakTieByStageOrder_30 : decode cX0_breakTieByStageOrder 30 = .ok (.aload_n 0, 1) := by decide +kernel
theorem dX0_breakTieByStageOrder_31 : decode cX0_breakTieByStageOrder 31 = .ok (.getfield 81, 3) := by decide +kernel
theorem dX0_breakTieByStageOrder_34 : decode cX0_breakTieByStageOrder 34 = .ok (.iload_n 3, 1) := by decide +kernel
theorem dX0_breakTieByStageOrder_35 : decode cX0_breakTieByStageOrder 35 = .ok (.invokevirtual 294, 3) := by decide +kernel
theorem dX0_breakTieByStageOrder_38 : decode cX0_breakTieByStageOrder 38 = .ok (.ifCond .eq 18, 3) := by decide +kernel
theorem dX0_breakTieByStageOrder_41 : decode cX0_breakTieByStageOrder 41 = .ok (.iinc 1 (-1), 3) := by decide +kernel
theorem dX0_breakTieByStageOrder_44 : decode cX0_breakTieByStageOrder 44 = .ok (.iload_n 1, 1) := by decide +kernel
theorem dX0_breakTieByStageOrder_45 : decode cX0_breakTieByStageOrder 45 = .ok (.ifCond .ge 11, 3) := by decide +kernel
theorem dX0_breakTieByStageOrder_48 : decode cX0_breakTieByStageOrder 48 = .ok (.aload_n 0, 1) := by decide +kernel
theorem dX0_breakTieByStageOrder_49 : decode cX0_breakTieByStageOrder 49 = .ok (.getfield 31, 3) := by decide +kernel
theorem dX0_breakTieByStageOrder_52 : decode cX0_breakTieByStageOrder 52 = .ok (.iload_n 3, 1) := by decide +kernel
theorem dX0_breakTieByStageOrder_53 : decode cX0_breakTieByStageOrder 53 = .ok (.invokevirtual 236, 3) := by decide +kernel
theorem dX0_breakTieByStageOrder_56 : decode cX0_breakTieByStageOrder 56 = .ok (.iinc 2 1, 3) := by decide +kernel
theorem dX0_breakTieByStageOrder_59 : decode cX0_breakTieByStageOrder 59 = .ok (.goto (-49), 3) := by decide +kernel
theorem dX0_breakTieByStageOrder_62 : decode cX0_breakTieByStageOrder 62 = .ok (.return_, 1) := by decide +kernel
set_option maxRecDepth 20000 in
theorem ggX0_goOn_X9_end : GoodIn wsX0_goOn wsX9_end := goodIn_r _ [9, 10, 11, 12, 13, 14, 15, 16, 17, 18, 19, 20, 21, 22, 23, 24, 155, 156, 157, 158, 159] (by decide +kernel) (by decide +kernel)
set_option maxRecDepth 20000 in
theorem gX0_goOn_X9_end : GoodIn wsX0_goOn (wsV RX0 297 RX9 yX9_end wsX9_end) := goodIn_app (goodIn_of _ (by decide +kernel)) ggX0_goOn_X9_end
set_option maxRecDepth 20000 in
theorem ggX0_goOn_X0_startRound : GoodIn wsX0_goOn wsX0_startRound := goodIn_r _ [29, 2, 30, 31, 32, 33, 34, 35, 4, 36, 37, 38, 39, 40, 41, 42, 43, 44, 15, 16, 17, 45, 19, 20, 21, 22, 23, 24, 46, 47, 48, 49, 50, 51, 52, 53, 54, 55, 56, 57, 58, 59, 60, 61, 62, 63, 64, 65, 66, 67, 68, 69, 70, 71, 72, 73, 74, 75, 76, 77, 78, 79, 80, 81, 82, 83, 84, 85, 86, 87, 88, 89, 90, 91, 92, 93, 94, 95, 96, 97, 98, 99, 100, 101, 102, 103, 104, 105, 106, 107, 108, 109, 110, 111, 112, 113, 114, 115, 116, 117, 118, 119, 120, 121, 122, 123, 124, 125, 126, 127, 128, 129, 130, 131, 132, 133, 134, 135, 136, 137, 138, 139, 140, 141, 142, 143, 144, 145, 146, 147, 148, 149, 150, 151, 152, 153, 154, 160, 161, 162, 163, 164, 165, 166, 159, 167, 168, 169, 170, 171] (by decide +kernel) (by decide +kernel)
set_option maxRecDepth 20000 in
theorem gX0_goOn_X0_startRound : GoodIn wsX0_goOn (wsV RX0 300 RX0 yX0_startRound wsX0_startRound) := goodIn_app (goodIn_of _ (by decide +kernel)) ggX0_goOn_X0_startRound
theorem dX0_goOn_0 : decode cX0_goOn 0 = .ok (.aload_n 0, 1) := by decide +kernel
theorem dX0_goOn_1 : decode cX0_goOn 1 = .ok (.getfield 71, 3) := by decide +kernel
theorem dX0_goOn_4 : decode cX0_goOn 4 = .ok (.invokevirtual 297, 3) := by decide +kernel
theorem dX0_goOn_7 : decode cX0_goOn 7 = .ok (.aload_n 0, 1) := by decide +kernel
theorem dX0_goOn_8 : decode cX0_goOn 8 = .ok (.getfield 99, 3) := by decide +kernel
theorem dX0_goOn_11 : decode cX0_goOn 11 = .ok (.iconst 1, 1) := by decide +kernel
theorem dX0_goOn_12 : decode cX0_goOn 12 = .ok (.iadd, 1) := by decide +kernel
theorem dX0_goOn_13 : decode cX0_goOn 13 = .ok (.aload_n 0, 1) := by decide +kernel
theorem dX0_goOn_14 : decode cX0_goOn 14 = .ok (.getfield 15, 3) := by decide +kernel
theorem dX0_goOn_17 : decode cX0_goOn 17 = .ok (.if_icmp .ge 16, 3) := by decide +kernel
theorem dX0_goOn_20 : decode cX0_goOn 20 = .ok (.aload_n 0, 1) := by decide +kernel
theorem dX0_goOn_21 : decode cX0_goOn 21 = .ok (.aload_n 0, 1) := by decide +kernel
theorem dX0_goOn_22 : decode cX0_goOn 22 = .ok (.getfield 99, 3) := by decide +kernel
theorem dX0_goOn_25 : decode cX0_goOn 25 = .ok (.iconst 1, 1) := by decide +kernel
theorem dX0_goOn_26 : decode cX0_goOn 26 = .ok (.iadd, 1) := by decide +kernel
theorem dX0_goOn_27 : decode cX0_goOn 27 = .ok (.invokevirtual 300, 3) := by decide +kernel
theorem dX0_goOn_30 : decode cX0_goOn 30 = .ok (.goto 8, 3) := by decide +kernel
theorem dX0_goOn_33 : decode cX0_goOn 33 = .ok (.aload_n 0, 1) := by decide +kernel
theorem dX0_goOn_34 : decode cX0_goOn 34 = .ok (.iconst 3, 1) := by decide +kernel
theorem dX0_goOn_35 : decode cX0_goOn 35 = .ok (.putfield 9, 3) := by decide +kernel
theorem dX0_goOn_38 : decode cX0_goOn 38 = .ok (.return_, 1) := by decide +kernel
theorem dX1_init_0 : decode cX1_init 0 = .ok (.aload_n 0, 1) := by decide +kernel
theorem dX1_init_1 : decode cX1_init 1 = .ok (.invokespecial 3, 3) := by decide +kernel
theorem dX1_init_4 : decode cX1_init 4 = .ok (.aload_n 0, 1) := by decide +kernel
theorem dX1_init_5 : decode cX1_init 5 = .ok (.bipush 12, 2) := by decide +kernel
theorem dX1_init_7 : decode cX1_init 7 = .ok (.newarray .int, 2) := by decide +kernel
theorem dX1_init_9 : decode cX1_init 9 = .ok (.putfield 9, 3) := by decide +kernel
theorem dX1_init_12 : decode cX1_init 12 = .ok (.return_, 1) := by decide +kernel
set_option maxRecDepth 20000 in
theorem ggX1_clear_J7_fill_53178 : GoodIn wsX1_clear wsJ7_fill_53178 := goodIn_r _ [5] (by decide +kernel) (by decide +kernel)
set_option maxRecDepth 20000 in
theorem gX1_clear_J7_fill_53178 : GoodIn wsX1_clear (va_wsS RX1 15 yJ7_fill_53178 wsJ7_fill_53178) := goodIn_app (goodIn_of _ (by decide +kernel)) ggX1_clear_J7_fill_53178
theorem dX1_clear_0 : decode cX1_clear 0 = .ok (.aload_n 0, 1) := by decide +kernel
theorem dX1_clear_1 : decode cX1_clear 1 = .ok (.getfield 9, 3) := by decide +kernel
theorem dX1_clear_4 : decode cX1_clear 4 = .ok (.iconst (-1), 1) := by decide +kernel
theorem dX1_clear_5 : decode cX1_clear 5 = .ok (.invokestatic 15, 3) := by decide +kernel
theorem dX1_clear_8 : decode cX1_clear 8 = .ok (.return_, 1) := by decide +kernel
set_option maxRecDepth 20000 in
theorem ggX1_put_X11_isBetween : GoodIn wsX1_put wsX11_isBetween := goodIn_r _ [4] (by decide +kernel) (by decide +kernel)
set_option maxRecDepth 20000 in
theorem gX1_put_X11_isBetween_n21 : GoodIn wsX1_put (wsX11_isBetween) := ggX1_put_X11_isBetween
theorem dX1_put_0 : decode cX1_put 0 = .ok (.iload_n 1, 1) := by decide +kernel
theorem dX1_put_1 : decode cX1_put 1 = .ok (.iconst 0, 1) := by decide +kernel
theorem dX1_put_2 : decode cX1_put 2 = .ok (.bipush 11, 2) := by decide +kernel
theorem dX1_put_4 : decode cX1_put 4 = .ok (.invokestatic 21, 3) := by decide +kernel
theorem dX1_put_7 : decode cX1_put 7 = .ok (.ifCond .eq 10, 3) := by decide +kernel
theorem dX1_put_10 : decode cX1_put 10 = .ok (.aload_n 0, 1) := by decide +kernel
theorem dX1_put_11 : decode cX1_put 11 = .ok (.getfield 9, 3) := by decide +kernel
theorem dX1_put_14 : decode cX1_put 14 = .ok (.iload_n 1, 1) := by decide +kernel
theorem dX1_put_15 : decode cX1_put 15 = .ok (.iload_n 2, 1) := by decide +kernel
theorem dX1_put_16 : decode cX1_put 16 = .ok (.iastore, 1) := by decide +kernel
theorem dX1_put_17 : decode cX1_put 17 = .ok (.return_, 1) := by decide +kernel
set_option maxRecDepth 20000 in
theorem ggX1_scoreOf_X11_isBetween : GoodIn wsX1_scoreOf wsX11_isBetween := goodIn_r _ [4] (by decide +kernel) (by decide +kernel)
set_option maxRecDepth 20000 in
theorem gX1_scoreOf_X11_isBetween_n21 : GoodIn wsX1_scoreOf (wsX11_isBetween) := ggX1_scoreOf_X11_isBetween
theorem dX1_scoreOf_0 : decode cX1_scoreOf 0 = .ok (.iload_n 1, 1) := by decide +kernel
theorem dX1_scoreOf_1 : decode cX1_scoreOf 1 = .ok (.iconst 0, 1) := by decide +kernel
theorem dX1_scoreOf_2 : decode cX1_scoreOf 2 = .ok (.bipush 11, 2) := by decide +kernel
theorem dX1_scoreOf_4 : decode cX1_scoreOf 4 = .ok (.invokestatic 21, 3) := by decide +kernel
theorem dX1_scoreOf_7 : decode cX1_scoreOf 7 = .ok (.ifCond .eq 12, 3) := by decide +kernel
theorem dX1_scoreOf_10 : decode cX1_scoreOf 10 = .ok (.aload_n 0, 1) := by decide +kernel
theorem dX1_scoreOf_11 : decode cX1_scoreOf 11 = .ok (.getfield 9, 3) := by decide +kernel
theorem dX1_scoreOf_14 : decode cX1_scoreOf 14 = .ok (.iload_n 1, 1) := by decide +kernel
theorem dX1_scoreOf_15 : decode cX1_scoreOf 15 = .ok (.iaload, 1) := by decide +kernel
theorem dX1_scoreOf_16 : decode cX1_scoreOf 16 = .ok (.goto 4, 3) := by decide +kernel
theorem dX1_scoreOf_19 : decode cX1_scoreOf 19 = .ok (.iconst (-1), 1) := by decide +kernel
theorem dX1_scoreOf_20 : decode cX1_scoreOf 20 = .ok (.ireturn, 1) := by decide +kernel
set_option maxRecDepth 20000 in
theorem ggX1_draw_X1_findLine : GoodIn wsX1_draw wsX1_findLine := goodIn_r _ [11, 1, 6, 12, 13, 14, 10, 15, 16, 17, 18, 19, 20, 21] (by decide +kernel) (by decide +kernel)
set_option maxRecDepth 20000 in
theorem gX1_draw_X1_findLine : GoodIn wsX1_draw (wsV RX1 29 RX1 yX1_findLine wsX1_findLine) := goodIn_app (goodIn_of _ (by decide +kernel)) ggX1_draw_X1_findLine
theorem dX1_draw_0 : decode cX1_draw 0 = .ok (.aload_n 0, 1) := by decide +kernel
theorem dX1_draw_1 : decode cX1_draw 1 = .ok (.iload_n 1, 1) := by decide +kernel
theorem dX1_draw_2 : decode cX1_draw 2 = .ok (.putfield 25, 3) := by decide +kernel
theorem dX1_draw_5 : decode cX1_draw 5 = .ok (.aload_n 0, 1) := by decide +kernel
theorem dX1_draw_6 : decode cX1_draw 6 = .ok (.aload_n 0, 1) := by decide +kernel
theorem dX1_draw_7 : decode cX1_draw 7 = .ok (.invokevirtual 29, 3) := by decide +kernel
theorem dX1_draw_10 : decode cX1_draw 10 = .ok (.putfield 33, 3) := by decide +kernel
theorem dX1_draw_13 : decode cX1_draw 13 = .ok (.aload_n 0, 1) := by decide +kernel
theorem dX1_draw_14 : decode cX1_draw 14 = .ok (.iconst 0, 1) := by decide +kernel
theorem dX1_draw_15 : decode cX1_draw 15 = .ok (.putfield 36, 3) := by decide +kernel
theorem dX1_draw_18 : decode cX1_draw 18 = .ok (.aload_n 0, 1) := by decide +kernel
theorem dX1_draw_19 : decode cX1_draw 19 = .ok (.iconst 0, 1) := by decide +kernel
theorem dX1_draw_20 : decode cX1_draw 20 = .ok (.putfield 39, 3) := by decide +kernel
theorem dX1_draw_23 : decode cX1_draw 23 = .ok (.aload_n 0, 1) := by decide +kernel
theorem dX1_draw_24 : decode cX1_draw 24 = .ok (.iconst 0, 1) := by decide +kernel
theorem dX1_draw_25 : decode cX1_draw 25 = .ok (.putfield 42, 3) := by decide +kernel
theorem dX1_draw_28 : decode cX1_draw 28 = .ok (.aload_n 0, 1) := by decide +kernel
theorem dX1_draw_29 : decode cX1_draw 29 = .ok (.getfield 9, 3) := by decide +kernel
theorem dX1_draw_32 : decode cX1_draw 32 = .ok (.astore_n 2, 1) := by decide +kernel
theorem dX1_draw_33 : decode cX1_draw 33 = .ok (.aload_n 2, 1) := by decide +kernel
theorem dX1_draw_34 : decode cX1_draw 34 = .ok (.arraylength, 1) := by decide +kernel
theorem dX1_draw_35 : decode cX1_draw 35 = .ok (.istore_n 3, 1) := by decide +kernel
theorem dX1_draw_36 : decode cX1_draw 36 = .ok (.iconst 0, 1) := by decide +kernel
theorem dX1_draw_37 : decode cX1_draw 37 = .ok (.istore 4, 2) := by decide +kernel
theorem dX1_draw_39 : decode cX1_draw 39 = .ok (.iload 4, 2) := by decide +kernel
theorem dX1_draw_41 : decode cX1_draw 41 = .ok (.iload_n 3, 1) := by decide +kernel
theorem dX1_draw_42 : decode cX1_draw 42 = .ok (.if_icmp .ge 78, 3) := by decide +kernel
theorem dX1_draw_45 : decode cX1_draw 45 = .ok (.aload_n 2, 1) := by decide +kernel
theorem dX1_draw_46 : decode cX1_draw 46 = .ok (.iload 4, 2) := by decide +kernel
theorem dX1_draw_48 : decode cX1_draw 48 = .ok (.iaload, 1) := by decide +kernel
theorem dX1_draw_49 : decode cX1_draw 49 = .ok (.istore 5, 2) := by decide +kernel
theorem dX1_draw_51 : decode cX1_draw 51 = .ok (.iload 5, 2) := by decide +kernel
theorem dX1_draw_53 : decode cX1_draw 53 = .ok (.iconst (-1), 1) := by decide +kernel
theorem dX1_draw_54 : decode cX1_draw 54 = .ok (.if_icmp .ne 6, 3) := by decide +kernel
theorem dX1_draw_57 : decode cX1_draw 57 = .ok (.goto 57, 3) := by decide +kernel
theorem dX1_draw_60 : decode cX1_draw 60 = .ok (.iload 5, 2) := by decide +kernel
theorem dX1_draw_62 : decode cX1_draw 62 = .ok (.aload_n 0, 1) := by decide +kernel
theorem dX1_draw_63 : decode cX1_draw 63 = .ok (.getfield 33, 3) := by decide +kernel
theorem dX1_draw_66 : decode cX1_draw 66 = .ok (.if_icmp .le 16, 3) := by decide +kernel
theorem dX1_draw_69 : decode cX1_draw 69 = .ok (.aload_n 0, 1) := by decide +kernel
theorem dX1_draw_70 : decode cX1_draw 70 = .ok (.dup, 1) := by decide +kernel
theorem dX1_draw_71 : decode cX1_draw 71 = .ok (.getfield 36, 3) := by decide +kernel
theorem dX1_draw_74 : decode cX1_draw 74 = .ok (.iconst 1, 1) := by decide +kernel
theorem dX1_draw_75 : decode cX1_draw 75 = .ok (.iadd, 1) := by decide +kernel
theorem dX1_draw_76 : decode cX1_draw 76 = .ok (.putfield 36, 3) := by decide +kernel
theorem dX1_draw_79 : decode cX1_draw 79 = .ok (.goto 35, 3) := by decide +kernel
theorem dX1_draw_82 : decode cX1_draw 82 = .ok (.iload 5, 2) := by decide +kernel
theorem dX1_draw_84 : decode cX1_draw 84 = .ok (.aload_n 0, 1) := by decide +kernel
theorem dX1_draw_85 : decode cX1_draw 85 = .ok (.getfield 33, 3) := by decide +kernel
theorem dX1_draw_88 : decode cX1_draw 88 = .ok (.if_icmp .ne 16, 3) := by decide +kernel
theorem dX1_draw_91 : decode cX1_draw 91 = .ok (.aload_n 0, 1) := by decide +kernel
theorem dX1_draw_92 : decode cX1_draw 92 = .ok (.dup, 1) := by decide +kernel
theorem dX1_draw_93 : decode cX1_draw 93 = .ok (.getfield 39, 3) := by decide +kernel
theorem dX1_draw_96 : decode cX1_draw 96 = .ok (.iconst 1, 1) := by decide +kernel
theorem dX1_draw_97 : decode cX1_draw 97 = .ok (.iadd, 1) := by decide +kernel
theorem dX1_draw_98 : decode cX1_draw 98 = .ok (.putfield 39, 3) := by decide +kernel
theorem dX1_draw_101 : decode cX1_draw 101 = .ok (.goto 13, 3) := by decide +kernel
theorem dX1_draw_104 : decode cX1_draw 104 = .ok (.aload_n 0, 1) := by decide +kernel
theorem dX1_draw_105 : decode cX1_draw 105 = .ok (.dup, 1) := by decide +kernel
theorem dX1_draw_106 : decode cX1_draw 106 = .ok (.getfield 42, 3) := by decide +kernel
theorem dX1_draw_109 : decode cX1_draw 109 = .ok (.iconst 1, 1) := by decide +kernel
theorem dX1_draw_110 : decode cX1_draw 110 = .ok (.iadd, 1) := by decide +kernel
theorem dX1_draw_111 : decode cX1_draw 111 = .ok (.putfield 42, 3) := by decide +kernel
theorem dX1_draw_114 : decode cX1_draw 114 = .ok (.iinc 4 1, 3) := by decide +kernel
theorem dX1_draw_117 : decode cX1_draw 117 = .ok (.goto (-78), 3) := by decide +kernel
theorem dX1_draw_120 : decode cX1_draw 120 = .ok (.return_, 1) := by decide +kernel
set_option maxRecDepth 20000 in
theorem ggX1_findLine_X1_countFrom : GoodIn wsX1_findLine wsX1_countFrom := goodIn_r _ [7, 2, 8, 9, 10, 11, 12, 13] (by decide +kernel) (by decide +kernel)
set_option maxRecDepth 20000 in
theorem gX1_findLine_X1_countFrom : GoodIn wsX1_findLine (wsV RX1 45 RX1 yX1_countFrom wsX1_countFrom) := goodIn_app (goodIn_of _ (by decide +kernel)) ggX1_findLine_X1_countFrom
theorem dX1_findLine_0 : decode cX1_findLine 0 = .ok (.aload_n 0, 1) := by decide +kernel
theorem dX1_findLine_1 : decode cX1_findLine 1 = .ok (.iconst 0, 1) := by decide +kernel
theorem dX1_findLine_2 : decode cX1_findLine 2 = .ok (.invokevirtual 45, 3) := by decide +kernel
theorem dX1_findLine_5 : decode cX1_findLine 5 = .ok (.aload_n 0, 1) := by decide +kernel
theorem dX1_findLine_6 : decode cX1_findLine 6 = .ok (.getfield 25, 3) := by decide +kernel
theorem dX1_findLine_9 : decode cX1_findLine 9 = .ok (.if_icmp .gt 5, 3) := by decide +kernel
theorem dX1_findLine_12 : decode cX1_findLine 12 = .ok (.iconst (-1), 1) := by decide +kernel
theorem dX1_findLine_13 : decode cX1_findLine 13 = .ok (.ireturn, 1) := by decide +kernel
theorem dX1_findLine_14 : decode cX1_findLine 14 = .ok (.iconst (-1), 1) := by decide +kernel
theorem dX1_findLine_15 : decode cX1_findLine 15 = .ok (.istore_n 1, 1) := by decide +kernel
theorem dX1_findLine_16 : decode cX1_findLine 16 = .ok (.aload_n 0, 1) := by decide +kernel
theorem dX1_findLine_17 : decode cX1_findLine 17 = .ok (.getfield 9, 3) := by decide +kernel
theorem dX1_findLine_20 : decode cX1_findLine 20 = .ok (.astore_n 2, 1) := by decide +kernel
theorem dX1_findLine_21 : decode cX1_findLine 21 = .ok (.aload_n 2, 1) := by decide +kernel
theorem dX1_findLine_22 : decode cX1_findLine 22 = .ok (.arraylength, 1) := by decide +kernel
theorem dX1_findLine_23 : decode cX1_findLine 23 = .ok (.istore_n 3, 1) := by decide +kernel
theorem dX1_findLine_24 : decode cX1_findLine 24 = .ok (.iconst 0, 1) := by decide +kernel
theorem dX1_findLine_25 : decode cX1_findLine 25 = .ok (.istore 4, 2) := by decide +kernel
theorem dX1_findLine_27 : decode cX1_findLine 27 = .ok (.iload 4, 2) := by decide +kernel
theorem dX1_findLine_29 : decode cX1_findLine 29 = .ok (.iload_n 3, 1) := by decide +kernel
theorem dX1_findLine_30 : decode cX1_findLine 30 = .ok (.if_icmp .ge 37, 3) := by decide +kernel
theorem dX1_findLine_33 : decode cX1_findLine 33 = .ok (.aload_n 2, 1) := by decide +kernel
theorem dX1_findLine_34 : decode cX1_findLine 34 = .ok (.iload 4, 2) := by decide +kernel
theorem dX1_findLine_36 : decode cX1_findLine 36 = .ok (.iaload, 1) := by decide +kernel
theorem dX1_findLine_37 : decode cX1_findLine 37 = .ok (.istore 5, 2) := by decide +kernel
theorem dX1_findLine_39 : decode cX1_findLine 39 = .ok (.iload 5, 2) := by decide +kernel
theorem dX1_findLine_41 : decode cX1_findLine 41 = .ok (.iload_n 1, 1) := by decide +kernel
theorem dX1_findLine_42 : decode cX1_findLine 42 = .ok (.if_icmp .le 19, 3) := by decide +kernel
theorem dX1_findLine_45 : decode cX1_findLine 45 = .ok (.aload_n 0, 1) := by decide +kernel
theorem dX1_findLine_46 : decode cX1_findLine 46 = .ok (.iload 5, 2) := by decide +kernel
theorem dX1_findLine_48 : decode cX1_findLine 48 = .ok (.invokevirtual 45, 3) := by decide +kernel
theorem dX1_findLine_51 : decode cX1_findLine 51 = .ok (.aload_n 0, 1) := by decide +kernel
theorem dX1_findLine_52 : decode cX1_findLine 52 = .ok (.getfield 25, 3) := by decide +kernel
theorem dX1_findLine_55 : decode cX1_findLine 55 = .ok (.if_icmp .lt 6, 3) := by decide +kernel
theorem dX1_findLine_58 : decode cX1_findLine 58 = .ok (.iload 5, 2) := by decide +kernel
theorem dX1_findLine_60 : decode cX1_findLine 60 = .ok (.istore_n 1, 1) := by decide +kernel
theorem dX1_findLine_61 : decode cX1_findLine 61 = .ok (.iinc 4 1, 3) := by decide +kernel
theorem dX1_findLine_64 : decode cX1_findLine 64 = .ok (.goto (-37), 3) := by decide +kernel
theorem dX1_findLine_67 : decode cX1_findLine 67 = .ok (.iload_n 1, 1) := by decide +kernel
theorem dX1_findLine_68 : decode cX1_findLine 68 = .ok (.ireturn, 1) := by decide +kernel
theorem dX1_countFrom_0 : decode cX1_countFrom 0 = .ok (.iconst 0, 1) := by decide +kernel
theorem dX1_countFrom_1 : decode cX1_countFrom 1 = .ok (.istore_n 2, 1) := by decide +kernel
theorem dX1_countFrom_2 : decode cX1_countFrom 2 = .ok (.aload_n 0, 1) := by decide +kernel
theorem dX1_countFrom_3 : decode cX1_countFrom 3 = .ok (.getfield 9, 3) := by decide +kernel
theorem dX1_countFrom_6 : decode cX1_countFrom 6 = .ok (.astore_n 3, 1) := by decide +kernel
theorem dX1_countFrom_7 : decode cX1_countFrom 7 = .ok (.aload_n 3, 1) := by decide +kernel
theorem dX1_countFrom_8 : decode cX1_countFrom 8 = .ok (.arraylength, 1) := by decide +kernel
theorem dX1_countFrom_9 : decode cX1_countFrom 9 = .ok (.istore 4, 2) := by decide +kernel
theorem dX1_countFrom_11 : decode cX1_countFrom 11 = .ok (.iconst 0, 1) := by decide +kernel
theorem dX1_countFrom_12 : decode cX1_countFrom 12 = .ok (.istore 5, 2) := by decide +kernel
theorem dX1_countFrom_14 : decode cX1_countFrom 14 = .ok (.iload 5, 2) := by decide +kernel
theorem dX1_countFrom_16 : decode cX1_countFrom 16 = .ok (.iload 4, 2) := by decide +kernel
theorem dX1_countFrom_18 : decode cX1_countFrom 18 = .ok (.if_icmp .ge 24, 3) := by decide +kernel
theorem dX1_countFrom_21 : decode cX1_countFrom 21 = .ok (.aload_n 3, 1) := by decide +kernel
theorem dX1_countFrom_22 : decode cX1_countFrom 22 = .ok (.iload 5, 2) := by decide +kernel
theorem dX1_countFrom_24 : decode cX1_countFrom 24 = .ok (.iaload, 1) := by decide +kernel
theorem dX1_countFrom_25 : decode cX1_countFrom 25 = .ok (.istore 6, 2) := by decide +kernel
theorem dX1_countFrom_27 : decode cX1_countFrom 27 = .ok (.iload 6, 2) := by decide +kernel
theorem dX1_countFrom_29 : decode cX1_countFrom 29 = .ok (.iload_n 1, 1) := by decide +kernel
theorem dX1_countFrom_30 : decode cX1_countFrom 30 = .ok (.if_icmp .lt 6, 3) := by decide +kernel
theorem dX1_countFrom_33 : decode cX1_countFrom 33 = .ok (.iinc 2 1, 3) := by decide +kernel
theorem dX1_countFrom_36 : decode cX1_countFrom 36 = .ok (.iinc 5 1, 3) := by decide +kernel
theorem dX1_countFrom_39 : decode cX1_countFrom 39 = .ok (.goto (-25), 3) := by decide +kernel
theorem dX1_countFrom_42 : decode cX1_countFrom 42 = .ok (.iload_n 2, 1) := by decide +kernel
theorem dX1_countFrom_43 : decode cX1_countFrom 43 = .ok (.ireturn, 1) := by decide +kernel
theorem dX1_leavesTie_0 : decode cX1_leavesTie 0 = .ok (.aload_n 0, 1) := by decide +kernel
theorem dX1_leavesTie_1 : decode cX1_leavesTie 1 = .ok (.getfield 36, 3) := by decide +kernel
theorem dX1_leavesTie_4 : decode cX1_leavesTie 4 = .ok (.aload_n 0, 1) := by decide +kernel
theorem dX1_leavesTie_5 : decode cX1_leavesTie 5 = .ok (.getfield 39, 3) := by decide +kernel
theorem dX1_leavesTie_8 : decode cX1_leavesTie 8 = .ok (.iadd, 1) := by decide +kernel
theorem dX1_leavesTie_9 : decode cX1_leavesTie 9 = .ok (.aload_n 0, 1) := by decide +kernel
theorem dX1_leavesTie_10 : decode cX1_leavesTie 10 = .ok (.getfield 25, 3) := by decide +kernel
theorem dX1_leavesTie_13 : decode cX1_leavesTie 13 = .ok (.if_icmp .le 7, 3) := by decide +kernel
theorem dX1_leavesTie_16 : decode cX1_leavesTie 16 = .ok (.iconst 1, 1) := by decide +kernel
theorem dX1_leavesTie_17 : decode cX1_leavesTie 17 = .ok (.goto 4, 3) := by decide +kernel
theorem dX1_leavesTie_20 : decode cX1_leavesTie 20 = .ok (.iconst 0, 1) := by decide +kernel
theorem dX1_leavesTie_21 : decode cX1_leavesTie 21 = .ok (.ireturn, 1) := by decide +kernel
theorem dX1_placesLeft_0 : decode cX1_placesLeft 0 = .ok (.aload_n 0, 1) := by decide +kernel
theorem dX1_placesLeft_1 : decode cX1_placesLeft 1 = .ok (.getfield 25, 3) := by decide +kernel
theorem dX1_placesLeft_4 : decode cX1_placesLeft 4 = .ok (.aload_n 0, 1) := by decide +kernel
theorem dX1_placesLeft_5 : decode cX1_placesLeft 5 = .ok (.getfield 36, 3) := by decide +kernel
theorem dX1_placesLeft_8 : decode cX1_placesLeft 8 = .ok (.isub, 1) := by decide +kernel
theorem dX1_placesLeft_9 : decode cX1_placesLeft 9 = .ok (.ireturn, 1) := by decide +kernel
set_option maxRecDepth 20000 in
theorem ggX1_isTied_X1_leavesTie : GoodIn wsX1_isTied wsX1_leavesTie := goodIn_r _ [6, 7, 8, 9, 18, 19, 20, 21, 22, 23] (by decide +kernel) (by decide +kernel)
set_option maxRecDepth 20000 in
theorem gX1_isTied_X1_leavesTie : GoodIn wsX1_isTied (wsV RX1 49 RX1 yX1_leavesTie wsX1_leavesTie) := goodIn_app (goodIn_of _ (by decide +kernel)) ggX1_isTied_X1_leavesTie
set_option maxRecDepth 20000 in
theorem ggX1_isTied_X1_scoreOf : GoodIn wsX1_isTied wsX1_scoreOf := goodIn_r _ [13, 14, 15, 16, 17, 18, 19, 20, 21, 22, 23] (by decide +kernel) (by decide +kernel)
set_option maxRecDepth 20000 in
theorem gX1_isTied_X1_scoreOf : GoodIn wsX1_isTied (wsV RX1 53 RX1 yX1_scoreOf wsX1_scoreOf) := goodIn_app (goodIn_of _ (by decide +kernel)) ggX1_isTied_X1_scoreOf
theorem dX1_isTied_0 : decode cX1_isTied 0 = .ok (.aload_n 0, 1) := by decide +kernel
theorem dX1_isTied_1 : decode cX1_isTied 1 = .ok (.invokevirtual 49, 3) := by decide +kernel
theorem dX1_isTied_4 : decode cX1_isTied 4 = .ok (.ifCond .eq 28, 3) := by decide +kernel
theorem dX1_isTied_7 : decode cX1_isTied 7 = .ok (.aload_n 0, 1) := by decide +kernel
theorem dX1_isTied_8 : decode cX1_isTied 8 = .ok (.iload_n 1, 1) := by decide +kernel
theorem dX1_isTied_9 : decode cX1_isTied 9 = .ok (.invokevirtual 53, 3) := by decide +kernel
theorem dX1_isTied_12 : decode cX1_isTied 12 = .ok (.iconst (-1), 1) := by decide +kernel
theorem dX1_isTied_13 : decode cX1_isTied 13 = .ok (.if_icmp .eq 19, 3) := by decide +kernel
theorem dX1_isTied_16 : decode cX1_isTied 16 = .ok (.aload_n 0, 1) := by decide +kernel
theorem dX1_isTied_17 : decode cX1_isTied 17 = .ok (.iload_n 1, 1) := by decide +kernel
theorem dX1_isTied_18 : decode cX1_isTied 18 = .ok (.invokevirtual 53, 3) := by decide +kernel
theorem dX1_isTied_21 : decode cX1_isTied 21 = .ok (.aload_n 0, 1) := by decide +kernel
theorem dX1_isTied_22 : decode cX1_isTied 22 = .ok (.getfield 33, 3) := by decide +kernel
theorem dX1_isTied_25 : decode cX1_isTied 25 = .ok (.if_icmp .ne 7, 3) := by decide +kernel
theorem dX1_isTied_28 : decode cX1_isTied 28 = .ok (.iconst 1, 1) := by decide +kernel
theorem dX1_isTied_29 : decode cX1_isTied 29 = .ok (.goto 4, 3) := by decide +kernel
theorem dX1_isTied_32 : decode cX1_isTied 32 = .ok (.iconst 0, 1) := by decide +kernel
theorem dX1_isTied_33 : decode cX1_isTied 33 = .ok (.ireturn, 1) := by decide +kernel
set_option maxRecDepth 20000 in
theorem ggX1_isOut_X1_scoreOf : GoodIn wsX1_isOut wsX1_scoreOf := goodIn_r _ [6, 7, 8, 9, 10, 11, 12, 13, 14, 15, 16] (by decide +kernel) (by decide +kernel)
set_option maxRecDepth 20000 in
theorem gX1_isOut_X1_scoreOf : GoodIn wsX1_isOut (wsV RX1 53 RX1 yX1_scoreOf wsX1_scoreOf) := goodIn_app (goodIn_of _ (by decide +kernel)) ggX1_isOut_X1_scoreOf
theorem dX1_isOut_0 : decode cX1_isOut 0 = .ok (.aload_n 0, 1) := by decide +kernel
theorem dX1_isOut_1 : decode cX1_isOut 1 = .ok (.iload_n 1, 1) := by decide +kernel
theorem dX1_isOut_2 : decode cX1_isOut 2 = .ok (.invokevirtual 53, 3) := by decide +kernel
theorem dX1_isOut_5 : decode cX1_isOut 5 = .ok (.iconst (-1), 1) := by decide +kernel
theorem dX1_isOut_6 : decode cX1_isOut 6 = .ok (.if_icmp .eq 19, 3) := by decide +kernel
theorem dX1_isOut_9 : decode cX1_isOut 9 = .ok (.aload_n 0, 1) := by decide +kernel
theorem dX1_isOut_10 : decode cX1_isOut 10 = .ok (.iload_n 1, 1) := by decide +kernel
theorem dX1_isOut_11 : decode cX1_isOut 11 = .ok (.invokevirtual 53, 3) := by decide +kernel
theorem dX1_isOut_14 : decode cX1_isOut 14 = .ok (.aload_n 0, 1) := by decide +kernel
theorem dX1_isOut_15 : decode cX1_isOut 15 = .ok (.getfield 33, 3) := by decide +kernel
theorem dX1_isOut_18 : decode cX1_isOut 18 = .ok (.if_icmp .ge 7, 3) := by decide +kernel
theorem dX1_isOut_21 : decode cX1_isOut 21 = .ok (.iconst 1, 1) := by decide +kernel
theorem dX1_isOut_22 : decode cX1_isOut 22 = .ok (.goto 4, 3) := by decide +kernel
theorem dX1_isOut_25 : decode cX1_isOut 25 = .ok (.iconst 0, 1) := by decide +kernel
theorem dX1_isOut_26 : decode cX1_isOut 26 = .ok (.ireturn, 1) := by decide +kernel
set_option maxRecDepth 20000 in
theorem ggX1_countOf_X1_leavesTie : GoodIn wsX1_countOf wsX1_leavesTie := goodIn_r _ [8, 1, 2, 9, 10, 11, 12, 13, 14, 15] (by decide +kernel) (by decide +kernel)
set_option maxRecDepth 20000 in
theorem gX1_countOf_X1_leavesTie : GoodIn wsX1_countOf (wsV RX1 49 RX1 yX1_leavesTie wsX1_leavesTie) := goodIn_app (goodIn_of _ (by decide +kernel)) ggX1_countOf_X1_leavesTie
theorem dX1_countOf_0 : decode cX1_countOf 0 = .ok (.iload_n 1, 1) := by decide +kernel
theorem dX1_countOf_1 : decode cX1_countOf 1 = .ok (.lookupswitch 67 #[(0, 27), (1, 51)], 27) := by decide +kernel
theorem dX1_countOf_28 : decode cX1_countOf 28 = .ok (.aload_n 0, 1) := by decide +kernel
theorem dX1_countOf_29 : decode cX1_countOf 29 = .ok (.invokevirtual 49, 3) := by decide +kernel
theorem dX1_countOf_32 : decode cX1_countOf 32 = .ok (.ifCond .eq 10, 3) := by decide +kernel
theorem dX1_countOf_35 : decode cX1_countOf 35 = .ok (.aload_n 0, 1) := by decide +kernel
theorem dX1_countOf_36 : decode cX1_countOf 36 = .ok (.getfield 36, 3) := by decide +kernel
theorem dX1_countOf_39 : decode cX1_countOf 39 = .ok (.goto 12, 3) := by decide +kernel
theorem dX1_countOf_42 : decode cX1_countOf 42 = .ok (.aload_n 0, 1) := by decide +kernel
theorem dX1_countOf_43 : decode cX1_countOf 43 = .ok (.getfield 36, 3) := by decide +kernel
theorem dX1_countOf_46 : decode cX1_countOf 46 = .ok (.aload_n 0, 1) := by decide +kernel
theorem dX1_countOf_47 : decode cX1_countOf 47 = .ok (.getfield 39, 3) := by decide +kernel
theorem dX1_countOf_50 : decode cX1_countOf 50 = .ok (.iadd, 1) := by decide +kernel
theorem dX1_countOf_51 : decode cX1_countOf 51 = .ok (.ireturn, 1) := by decide +kernel
theorem dX1_countOf_52 : decode cX1_countOf 52 = .ok (.aload_n 0, 1) := by decide +kernel
theorem dX1_countOf_53 : decode cX1_countOf 53 = .ok (.invokevirtual 49, 3) := by decide +kernel
theorem dX1_countOf_56 : decode cX1_countOf 56 = .ok (.ifCond .eq 10, 3) := by decide +kernel
theorem dX1_countOf_59 : decode cX1_countOf 59 = .ok (.aload_n 0, 1) := by decide +kernel
theorem dX1_countOf_60 : decode cX1_countOf 60 = .ok (.getfield 39, 3) := by decide +kernel
theorem dX1_countOf_63 : decode cX1_countOf 63 = .ok (.goto 4, 3) := by decide +kernel
theorem dX1_countOf_66 : decode cX1_countOf 66 = .ok (.iconst 0, 1) := by decide +kernel
theorem dX1_countOf_67 : decode cX1_countOf 67 = .ok (.ireturn, 1) := by decide +kernel
theorem dX1_countOf_68 : decode cX1_countOf 68 = .ok (.aload_n 0, 1) := by decide +kernel
theorem dX1_countOf_69 : decode cX1_countOf 69 = .ok (.getfield 42, 3) := by decide +kernel
theorem dX1_countOf_72 : decode cX1_countOf 72 = .ok (.ireturn, 1) := by decide +kernel
theorem dX2_init_0 : decode cX2_init 0 = .ok (.aload_n 0, 1) := by decide +kernel
theorem dX2_init_1 : decode cX2_init 1 = .ok (.invokespecial 3, 3) := by decide +kernel
theorem dX2_init_4 : decode cX2_init 4 = .ok (.aload_n 0, 1) := by decide +kernel
theorem dX2_init_5 : decode cX2_init 5 = .ok (.bipush 12, 2) := by decide +kernel
theorem dX2_init_7 : decode cX2_init 7 = .ok (.newarray .int, 2) := by decide +kernel
theorem dX2_init_9 : decode cX2_init 9 = .ok (.putfield 9, 3) := by decide +kernel
theorem dX2_init_12 : decode cX2_init 12 = .ok (.return_, 1) := by decide +kernel
theorem dX2_has_0 : decode cX2_has 0 = .ok (.iload_n 1, 1) := by decide +kernel
theorem dX2_has_1 : decode cX2_has 1 = .ok (.ifCond .lt 21, 3) := by decide +kernel
theorem dX2_has_4 : decode cX2_has 4 = .ok (.iload_n 1, 1) := by decide +kernel
theorem dX2_has_5 : decode cX2_has 5 = .ok (.aload_n 0, 1) := by decide +kernel
theorem dX2_has_6 : decode cX2_has 6 = .ok (.getfield 15, 3) := by decide +kernel
theorem dX2_has_9 : decode cX2_has 9 = .ok (.if_icmp .ge 13, 3) := by decide +kernel
theorem dX2_has_12 : decode cX2_has 12 = .ok (.iload_n 1, 1) := by decide +kernel
theorem dX2_has_13 : decode cX2_has 13 = .ok (.bipush 12, 2) := by decide +kernel
theorem dX2_has_15 : decode cX2_has 15 = .ok (.if_icmp .ge 7, 3) := by decide +kernel
theorem dX2_has_18 : decode cX2_has 18 = .ok (.iconst 1, 1) := by decide +kernel
theorem dX2_has_19 : decode cX2_has 19 = .ok (.goto 4, 3) := by decide +kernel
theorem dX2_has_22 : decode cX2_has 22 = .ok (.iconst 0, 1) := by decide +kernel
theorem dX2_has_23 : decode cX2_has 23 = .ok (.ireturn, 1) := by decide +kernel
theorem dX2_append_0 : decode cX2_append 0 = .ok (.aload_n 0, 1) := by decide +kernel
theorem dX2_append_1 : decode cX2_append 1 = .ok (.getfield 15, 3) := by decide +kernel
theorem dX2_append_4 : decode cX2_append 4 = .ok (.bipush 12, 2) := by decide +kernel
theorem dX2_append_6 : decode cX2_append 6 = .ok (.if_icmp .lt 5, 3) := by decide +kernel
theorem dX2_append_9 : decode cX2_append 9 = .ok (.iconst (-1), 1) := by decide +kernel
theorem dX2_append_10 : decode cX2_append 10 = .ok (.ireturn, 1) := by decide +kernel
theorem dX2_append_11 : decode cX2_append 11 = .ok (.aload_n 0, 1) := by decide +kernel
theorem dX2_append_12 : decode cX2_append 12 = .ok (.getfield 15, 3) := by decide +kernel
theorem dX2_append_15 : decode cX2_append 15 = .ok (.istore_n 1, 1) := by decide +kernel
theorem dX2_append_16 : decode cX2_append 16 = .ok (.aload_n 0, 1) := by decide +kernel
theorem dX2_append_17 : decode cX2_append 17 = .ok (.getfield 9, 3) := by decide +kernel
theorem dX2_append_20 : decode cX2_append 20 = .ok (.iload_n 1, 1) := by decide +kernel
theorem dX2_append_21 : decode cX2_append 21 = .ok (.iconst 1, 1) := by decide +kernel
theorem dX2_append_22 : decode cX2_append 22 = .ok (.iastore, 1) := by decide +kernel
theorem dX2_append_23 : decode cX2_append 23 = .ok (.aload_n 0, 1) := by decide +kernel
theorem dX2_append_24 : decode cX2_append 24 = .ok (.iload_n 1, 1) := by decide +kernel
theorem dX2_append_25 : decode cX2_append 25 = .ok (.iconst 1, 1) := by decide +kernel
theorem dX2_append_26 : decode cX2_append 26 = .ok (.iadd, 1) := by decide +kernel
theorem dX2_append_27 : decode cX2_append 27 = .ok (.putfield 15, 3) := by decide +kernel
theorem dX2_append_30 : decode cX2_append 30 = .ok (.iload_n 1, 1) := by decide +kernel
theorem dX2_append_31 : decode cX2_append 31 = .ok (.ireturn, 1) := by decide +kernel
set_option maxRecDepth 20000 in
theorem ggX2_isIn_X2_has : GoodIn wsX2_isIn wsX2_has := goodIn_r _ [6, 7, 8, 9] (by decide +kernel) (by decide +kernel)
set_option maxRecDepth 20000 in
theorem gX2_isIn_X2_has : GoodIn wsX2_isIn (wsV RX2 19 RX2 yX2_has wsX2_has) := goodIn_app (goodIn_of _ (by decide +kernel)) ggX2_isIn_X2_has
theorem dX2_isIn_0 : decode cX2_isIn 0 = .ok (.aload_n 0, 1) := by decide +kernel
theorem dX2_isIn_1 : decode cX2_isIn 1 = .ok (.iload_n 1, 1) := by decide +kernel
theorem dX2_isIn_2 : decode cX2_isIn 2 = .ok (.invokevirtual 19, 3) := by decide +kernel
theorem dX2_isIn_5 : decode cX2_isIn 5 = .ok (.ifCond .eq 17, 3) := by decide +kernel
theorem dX2_isIn_8 : decode cX2_isIn 8 = .ok (.aload_n 0, 1) := by decide +kernel
theorem dX2_isIn_9 : decode cX2_isIn 9 = .ok (.getfield 9, 3) := by decide +kernel
theorem dX2_isIn_12 : decode cX2_isIn 12 = .ok (.iload_n 1, 1) := by decide +kernel
theorem dX2_isIn_13 : decode cX2_isIn 13 = .ok (.iaload, 1) := by decide +kernel
theorem dX2_isIn_14 : decode cX2_isIn 14 = .ok (.iconst 1, 1) := by decide +kernel
theorem dX2_isIn_15 : decode cX2_isIn 15 = .ok (.if_icmp .ne 7, 3) := by decide +kernel
theorem dX2_isIn_18 : decode cX2_isIn 18 = .ok (.iconst 1, 1) := by decide +kernel
theorem dX2_isIn_19 : decode cX2_isIn 19 = .ok (.goto 4, 3) := by decide +kernel
theorem dX2_isIn_22 : decode cX2_isIn 22 = .ok (.iconst 0, 1) := by decide +kernel
theorem dX2_isIn_23 : decode cX2_isIn 23 = .ok (.ireturn, 1) := by decide +kernel
set_option maxRecDepth 20000 in
theorem ggX2_putOut_X2_has : GoodIn wsX2_putOut wsX2_has := goodIn_r _ [6, 7, 8, 9] (by decide +kernel) (by decide +kernel)
set_option maxRecDepth 20000 in
theorem gX2_putOut_X2_has : GoodIn wsX2_putOut (wsV RX2 19 RX2 yX2_has wsX2_has) := goodIn_app (goodIn_of _ (by decide +kernel)) ggX2_putOut_X2_has
theorem dX2_putOut_0 : decode cX2_putOut 0 = .ok (.aload_n 0, 1) := by decide +kernel
theorem dX2_putOut_1 : decode cX2_putOut 1 = .ok (.iload_n 1, 1) := by decide +kernel
theorem dX2_putOut_2 : decode cX2_putOut 2 = .ok (.invokevirtual 19, 3) := by decide +kernel
theorem dX2_putOut_5 : decode cX2_putOut 5 = .ok (.ifCond .eq 10, 3) := by decide +kernel
theorem dX2_putOut_8 : decode cX2_putOut 8 = .ok (.aload_n 0, 1) := by decide +kernel
theorem dX2_putOut_9 : decode cX2_putOut 9 = .ok (.getfield 9, 3) := by decide +kernel
theorem dX2_putOut_12 : decode cX2_putOut 12 = .ok (.iload_n 1, 1) := by decide +kernel
theorem dX2_putOut_13 : decode cX2_putOut 13 = .ok (.iconst 0, 1) := by decide +kernel
theorem dX2_putOut_14 : decode cX2_putOut 14 = .ok (.iastore, 1) := by decide +kernel
theorem dX2_putOut_15 : decode cX2_putOut 15 = .ok (.return_, 1) := by decide +kernel
set_option maxRecDepth 20000 in
theorem ggX2_countIn_X2_isIn : GoodIn wsX2_countIn wsX2_isIn := goodIn_r _ [6, 7, 8, 9, 10, 5, 11, 1, 12, 13] (by decide +kernel) (by decide +kernel)
set_option maxRecDepth 20000 in
theorem gX2_countIn_X2_isIn : GoodIn wsX2_countIn (wsV RX2 23 RX2 yX2_isIn wsX2_isIn) := goodIn_app (goodIn_of _ (by decide +kernel)) ggX2_countIn_X2_isIn
theorem dX2_countIn_0 : decode cX2_countIn 0 = .ok (.iconst 0, 1) := by decide +kernel
theorem dX2_countIn_1 : decode cX2_countIn 1 = .ok (.istore_n 1, 1) := by decide +kernel
theorem dX2_countIn_2 : decode cX2_countIn 2 = .ok (.iconst 0, 1) := by decide +kernel
theorem dX2_countIn_3 : decode cX2_countIn 3 = .ok (.istore_n 2, 1) := by decide +kernel
theorem dX2_countIn_4 : decode cX2_countIn 4 = .ok (.iload_n 2, 1) := by decide +kernel
theorem dX2_countIn_5 : decode cX2_countIn 5 = .ok (.aload_n 0, 1) := by decide +kernel
theorem dX2_countIn_6 : decode cX2_countIn 6 = .ok (.getfield 15, 3) := by decide +kernel
theorem dX2_countIn_9 : decode cX2_countIn 9 = .ok (.if_icmp .ge 20, 3) := by decide +kernel
theorem dX2_countIn_12 : decode cX2_countIn 12 = .ok (.aload_n 0, 1) := by decide +kernel
theorem dX2_countIn_13 : decode cX2_countIn 13 = .ok (.iload_n 2, 1) := by decide +kernel
theorem dX2_countIn_14 : decode cX2_countIn 14 = .ok (.invokevirtual 23, 3) := by decide +kernel
theorem dX2_countIn_17 : decode cX2_countIn 17 = .ok (.ifCond .eq 6, 3) := by decide +kernel
theorem dX2_countIn_20 : decode cX2_countIn 20 = .ok (.iinc 1 1, 3) := by decide +kernel
theorem dX2_countIn_23 : decode cX2_countIn 23 = .ok (.iinc 2 1, 3) := by decide +kernel
theorem dX2_countIn_26 : decode cX2_countIn 26 = .ok (.goto (-22), 3) := by decide +kernel
theorem dX2_countIn_29 : decode cX2_countIn 29 = .ok (.iload_n 1, 1) := by decide +kernel
theorem dX2_countIn_30 : decode cX2_countIn 30 = .ok (.ireturn, 1) := by decide +kernel
set_option maxRecDepth 20000 in
theorem ggX2_copyFrom_X11_copyRow : GoodIn wsX2_copyFrom wsX11_copyRow := goodIn_r _ [5, 6, 7, 8, 9, 10, 11, 12, 13] (by decide +kernel) (by decide +kernel)
set_option maxRecDepth 20000 in
theorem gX2_copyFrom_X11_copyRow_n26 : GoodIn wsX2_copyFrom (wsX11_copyRow) := ggX2_copyFrom_X11_copyRow
theorem dX2_copyFrom_0 : decode cX2_copyFrom 0 = .ok (.aload_n 0, 1) := by decide +kernel
theorem dX2_copyFrom_1 : decode cX2_copyFrom 1 = .ok (.aload_n 1, 1) := by decide +kernel
theorem dX2_copyFrom_2 : decode cX2_copyFrom 2 = .ok (.getfield 15, 3) := by decide +kernel
theorem dX2_copyFrom_5 : decode cX2_copyFrom 5 = .ok (.putfield 15, 3) := by decide +kernel
theorem dX2_copyFrom_8 : decode cX2_copyFrom 8 = .ok (.aload_n 1, 1) := by decide +kernel
theorem dX2_copyFrom_9 : decode cX2_copyFrom 9 = .ok (.getfield 9, 3) := by decide +kernel
theorem dX2_copyFrom_12 : decode cX2_copyFrom 12 = .ok (.aload_n 0, 1) := by decide +kernel
theorem dX2_copyFrom_13 : decode cX2_copyFrom 13 = .ok (.getfield 9, 3) := by decide +kernel
theorem dX2_copyFrom_16 : decode cX2_copyFrom 16 = .ok (.invokestatic 26, 3) := by decide +kernel
theorem dX2_copyFrom_19 : decode cX2_copyFrom 19 = .ok (.return_, 1) := by decide +kernel
theorem dX3_init_0 : decode cX3_init 0 = .ok (.aload_n 0, 1) := by decide +kernel
theorem dX3_init_1 : decode cX3_init 1 = .ok (.invokespecial 3, 3) := by decide +kernel
theorem dX3_init_4 : decode cX3_init 4 = .ok (.aload_n 0, 1) := by decide +kernel
theorem dX3_init_5 : decode cX3_init 5 = .ok (.iconst 5, 1) := by decide +kernel
theorem dX3_init_6 : decode cX3_init 6 = .ok (.putfield 9, 3) := by decide +kernel
theorem dX3_init_9 : decode cX3_init 9 = .ok (.aload_n 0, 1) := by decide +kernel
theorem dX3_init_10 : decode cX3_init 10 = .ok (.bipush 7, 2) := by decide +kernel
theorem dX3_init_12 : decode cX3_init 12 = .ok (.bipush 12, 2) := by decide +kernel
theorem dX3_init_14 : decode cX3_init 14 = .ok (.multianewarray 15 2, 4) := by decide +kernel
theorem dX3_init_18 : decode cX3_init 18 = .ok (.putfield 17, 3) := by decide +kernel
theorem dX3_init_21 : decode cX3_init 21 = .ok (.return_, 1) := by decide +kernel
theorem dX3_has_0 : decode cX3_has 0 = .ok (.iload_n 1, 1) := by decide +kernel
theorem dX3_has_1 : decode cX3_has 1 = .ok (.ifCond .lt 21, 3) := by decide +kernel
theorem dX3_has_4 : decode cX3_has 4 = .ok (.iload_n 1, 1) := by decide +kernel
theorem dX3_has_5 : decode cX3_has 5 = .ok (.aload_n 0, 1) := by decide +kernel
theorem dX3_has_6 : decode cX3_has 6 = .ok (.getfield 9, 3) := by decide +kernel
theorem dX3_has_9 : decode cX3_has 9 = .ok (.if_icmp .ge 13, 3) := by decide +kernel
theorem dX3_has_12 : decode cX3_has 12 = .ok (.iload_n 1, 1) := by decide +kernel
theorem dX3_has_13 : decode cX3_has 13 = .ok (.bipush 7, 2) := by decide +kernel
theorem dX3_has_15 : decode cX3_has 15 = .ok (.if_icmp .ge 7, 3) := by decide +kernel
theorem dX3_has_18 : decode cX3_has 18 = .ok (.iconst 1, 1) := by decide +kernel
theorem dX3_has_19 : decode cX3_has 19 = .ok (.goto 4, 3) := by decide +kernel
theorem dX3_has_22 : decode cX3_has 22 = .ok (.iconst 0, 1) := by decide +kernel
theorem dX3_has_23 : decode cX3_has 23 = .ok (.ireturn, 1) := by decide +kernel
theorem dX3_isBarred_0 : decode cX3_isBarred 0 = .ok (.iload_n 1, 1) := by decide +kernel
theorem dX3_isBarred_1 : decode cX3_isBarred 1 = .ok (.ifCond .lt 23, 3) := by decide +kernel
theorem dX3_isBarred_4 : decode cX3_isBarred 4 = .ok (.iload_n 1, 1) := by decide +kernel
theorem dX3_isBarred_5 : decode cX3_isBarred 5 = .ok (.bipush 7, 2) := by decide +kernel
theorem dX3_isBarred_7 : decode cX3_isBarred 7 = .ok (.if_icmp .ge 17, 3) := by decide +kernel
theorem dX3_isBarred_10 : decode cX3_isBarred 10 = .ok (.iload_n 2, 1) := by decide +kernel
theorem dX3_isBarred_11 : decode cX3_isBarred 11 = .ok (.ifCond .lt 13, 3) := by decide +kernel
theorem dX3_isBarred_14 : decode cX3_isBarred 14 = .ok (.iload_n 2, 1) := by decide +kernel
theorem dX3_isBarred_15 : decode cX3_isBarred 15 = .ok (.bipush 12, 2) := by decide +kernel
theorem dX3_isBarred_17 : decode cX3_isBarred 17 = .ok (.if_icmp .ge 7, 3) := by decide +kernel
theorem dX3_isBarred_20 : decode cX3_isBarred 20 = .ok (.iconst 1, 1) := by decide +kernel
theorem dX3_isBarred_21 : decode cX3_isBarred 21 = .ok (.goto 4, 3) := by decide +kernel
theorem dX3_isBarred_24 : decode cX3_isBarred 24 = .ok (.iconst 0, 1) := by decide +kernel
theorem dX3_isBarred_25 : decode cX3_isBarred 25 = .ok (.istore_n 3, 1) := by decide +kernel
theorem dX3_isBarred_26 : decode cX3_isBarred 26 = .ok (.iload_n 3, 1) := by decide +kernel
theorem dX3_isBarred_27 : decode cX3_isBarred 27 = .ok (.ifCond .eq 19, 3) := by decide +kernel
theorem dX3_isBarred_30 : decode cX3_isBarred 30 = .ok (.aload_n 0, 1) := by decide +kernel
theorem dX3_isBarred_31 : decode cX3_isBarred 31 = .ok (.getfield 17, 3) := by decide +kernel
theorem dX3_isBarred_34 : decode cX3_isBarred 34 = .ok (.iload_n 1, 1) := by decide +kernel
theorem dX3_isBarred_35 : decode cX3_isBarred 35 = .ok (.aaload, 1) := by decide +kernel
theorem dX3_isBarred_36 : decode cX3_isBarred 36 = .ok (.iload_n 2, 1) := by decide +kernel
theorem dX3_isBarred_37 : decode cX3_isBarred 37 = .ok (.iaload, 1) := by decide +kernel
theorem dX3_isBarred_38 : decode cX3_isBarred 38 = .ok (.iconst 1, 1) := by decide +kernel
theorem dX3_isBarred_39 : decode cX3_isBarred 39 = .ok (.if_icmp .ne 7, 3) := by decide +kernel
theorem dX3_isBarred_42 : decode cX3_isBarred 42 = .ok (.iconst 1, 1) := by decide +kernel
theorem dX3_isBarred_43 : decode cX3_isBarred 43 = .ok (.goto 4, 3) := by decide +kernel
theorem dX3_isBarred_46 : decode cX3_isBarred 46 = .ok (.iconst 0, 1) := by decide +kernel
theorem dX3_isBarred_47 : decode cX3_isBarred 47 = .ok (.ireturn, 1) := by decide +kernel
theorem dX3_setBarred_0 : decode cX3_setBarred 0 = .ok (.iload_n 1, 1) := by decide +kernel
theorem dX3_setBarred_1 : decode cX3_setBarred 1 = .ok (.ifCond .lt 36, 3) := by decide +kernel
theorem dX3_setBarred_4 : decode cX3_setBarred 4 = .ok (.iload_n 1, 1) := by decide +kernel
theorem dX3_setBarred_5 : decode cX3_setBarred 5 = .ok (.bipush 7, 2) := by decide +kernel
theorem dX3_setBarred_7 : decode cX3_setBarred 7 = .ok (.if_icmp .ge 30, 3) := by decide +kernel
theorem dX3_setBarred_10 : decode cX3_setBarred 10 = .ok (.iload_n 2, 1) := by decide +kernel
theorem dX3_setBarred_11 : decode cX3_setBarred 11 = .ok (.ifCond .lt 26, 3) := by decide +kernel
theorem dX3_setBarred_14 : decode cX3_setBarred 14 = .ok (.iload_n 2, 1) := by decide +kernel
theorem dX3_setBarred_15 : decode cX3_setBarred 15 = .ok (.bipush 12, 2) := by decide +kernel
theorem dX3_setBarred_17 : decode cX3_setBarred 17 = .ok (.if_icmp .ge 20, 3) := by decide +kernel
theorem dX3_setBarred_20 : decode cX3_setBarred 20 = .ok (.aload_n 0, 1) := by decide +kernel
theorem dX3_setBarred_21 : decode cX3_setBarred 21 = .ok (.getfield 17, 3) := by decide +kernel
theorem dX3_setBarred_24 : decode cX3_setBarred 24 = .ok (.iload_n 1, 1) := by decide +kernel
theorem dX3_setBarred_25 : decode cX3_setBarred 25 = .ok (.aaload, 1) := by decide +kernel
theorem dX3_setBarred_26 : decode cX3_setBarred 26 = .ok (.iload_n 2, 1) := by decide +kernel
theorem dX3_setBarred_27 : decode cX3_setBarred 27 = .ok (.iload_n 3, 1) := by decide +kernel
theorem dX3_setBarred_28 : decode cX3_setBarred 28 = .ok (.ifCond .eq 7, 3) := by decide +kernel
theorem dX3_setBarred_31 : decode cX3_setBarred 31 = .ok (.iconst 1, 1) := by decide +kernel
theorem dX3_setBarred_32 : decode cX3_setBarred 32 = .ok (.goto 4, 3) := by decide +kernel
theorem dX3_setBarred_35 : decode cX3_setBarred 35 = .ok (.iconst 0, 1) := by decide +kernel
theorem dX3_setBarred_36 : decode cX3_setBarred 36 = .ok (.iastore, 1) := by decide +kernel
theorem dX3_setBarred_37 : decode cX3_setBarred 37 = .ok (.return_, 1) := by decide +kernel
set_option maxRecDepth 20000 in
theorem ggX3_counts_X6_at : GoodIn wsX3_counts wsX6_at := goodIn_r _ [5, 6, 13] (by decide +kernel) (by decide +kernel)
set_option maxRecDepth 20000 in
theorem gX3_counts_X6_at : GoodIn wsX3_counts (wsV RX3 20 RX6 yX6_at wsX6_at) := goodIn_app (goodIn_of _ (by decide +kernel)) ggX3_counts_X6_at
set_option maxRecDepth 20000 in
theorem ggX3_counts_X3_isBarred : GoodIn wsX3_counts wsX3_isBarred := goodIn_r _ [11, 12, 14, 15] (by decide +kernel) (by decide +kernel)
set_option maxRecDepth 20000 in
theorem gX3_counts_X3_isBarred : GoodIn wsX3_counts (wsV RX3 26 RX3 yX3_isBarred wsX3_isBarred) := goodIn_app (goodIn_of _ (by decide +kernel)) ggX3_counts_X3_isBarred
theorem dX3_counts_0 : decode cX3_counts 0 = .ok (.aload_n 1, 1) := by decide +kernel
theorem dX3_counts_1 : decode cX3_counts 1 = .ok (.iload_n 2, 1) := by decide +kernel
theorem dX3_counts_2 : decode cX3_counts 2 = .ok (.iload_n 3, 1) := by decide +kernel
theorem dX3_counts_3 : decode cX3_counts 3 = .ok (.invokevirtual 20, 3) := by decide +kernel
theorem dX3_counts_6 : decode cX3_counts 6 = .ok (.ifCond .lt 16, 3) := by decide +kernel
theorem dX3_counts_9 : decode cX3_counts 9 = .ok (.aload_n 0, 1) := by decide +kernel
theorem dX3_counts_10 : decode cX3_counts 10 = .ok (.iload_n 2, 1) := by decide +kernel
theorem dX3_counts_11 : decode cX3_counts 11 = .ok (.iload_n 3, 1) := by decide +kernel
theorem dX3_counts_12 : decode cX3_counts 12 = .ok (.invokevirtual 26, 3) := by decide +kernel
theorem dX3_counts_15 : decode cX3_counts 15 = .ok (.ifCond .ne 7, 3) := by decide +kernel
theorem dX3_counts_18 : decode cX3_counts 18 = .ok (.iconst 1, 1) := by decide +kernel
theorem dX3_counts_19 : decode cX3_counts 19 = .ok (.goto 4, 3) := by decide +kernel
theorem dX3_counts_22 : decode cX3_counts 22 = .ok (.iconst 0, 1) := by decide +kernel
theorem dX3_counts_23 : decode cX3_counts 23 = .ok (.ireturn, 1) := by decide +kernel
set_option maxRecDepth 20000 in
theorem ggX3_countMarks_X3_counts : GoodIn wsX3_countMarks wsX3_counts := goodIn_r _ [6, 7, 8, 9, 10, 11, 12, 13, 14, 15, 5, 16, 17, 20, 18, 19] (by decide +kernel) (by decide +kernel)
set_option maxRecDepth 20000 in
theorem gX3_countMarks_X3_counts : GoodIn wsX3_countMarks (wsV RX3 30 RX3 yX3_counts wsX3_counts) := goodIn_app (goodIn_of _ (by decide +kernel)) ggX3_countMarks_X3_counts
theorem dX3_countMarks_0 : decode cX3_countMarks 0 = .ok (.iconst 0, 1) := by decide +kernel
theorem dX3_countMarks_1 : decode cX3_countMarks 1 = .ok (.istore_n 3, 1) := by decide +kernel
theorem dX3_countMarks_2 : decode cX3_countMarks 2 = .ok (.iconst 0, 1) := by decide +kernel
theorem dX3_countMarks_3 : decode cX3_countMarks 3 = .ok (.istore 4, 2) := by decide +kernel
theorem dX3_countMarks_5 : decode cX3_countMarks 5 = .ok (.iload 4, 2) := by decide +kernel
theorem dX3_countMarks_7 : decode cX3_countMarks 7 = .ok (.aload_n 0, 1) := by decide +kernel
theorem dX3_countMarks_8 : decode cX3_countMarks 8 = .ok (.getfield 9, 3) := by decide +kernel
theorem dX3_countMarks_11 : decode cX3_countMarks 11 = .ok (.if_icmp .ge 23, 3) := by decide +kernel
theorem dX3_countMarks_14 : decode cX3_countMarks 14 = .ok (.aload_n 0, 1) := by decide +kernel
theorem dX3_countMarks_15 : decode cX3_countMarks 15 = .ok (.aload_n 1, 1) := by decide +kernel
theorem dX3_countMarks_16 : decode cX3_countMarks 16 = .ok (.iload 4, 2) := by decide +kernel
theorem dX3_countMarks_18 : decode cX3_countMarks 18 = .ok (.iload_n 2, 1) := by decide +kernel
theorem dX3_countMarks_19 : decode cX3_countMarks 19 = .ok (.invokevirtual 30, 3) := by decide +kernel
theorem dX3_countMarks_22 : decode cX3_countMarks 22 = .ok (.ifCond .eq 6, 3) := by decide +kernel
theorem dX3_countMarks_25 : decode cX3_countMarks 25 = .ok (.iinc 3 1, 3) := by decide +kernel
theorem dX3_countMarks_28 : decode cX3_countMarks 28 = .ok (.iinc 4 1, 3) := by decide +kernel
theorem dX3_countMarks_31 : decode cX3_countMarks 31 = .ok (.goto (-26), 3) := by decide +kernel
theorem dX3_countMarks_34 : decode cX3_countMarks 34 = .ok (.iload_n 3, 1) := by decide +kernel
theorem dX3_countMarks_35 : decode cX3_countMarks 35 = .ok (.ireturn, 1) := by decide +kernel
set_option maxRecDepth 20000 in
theorem ggX3_isSettled_X3_isBarred : GoodIn wsX3_isSettled wsX3_isBarred := goodIn_r _ [6, 7, 14, 15] (by decide +kernel) (by decide +kernel)
set_option maxRecDepth 20000 in
theorem gX3_isSettled_X3_isBarred : GoodIn wsX3_isSettled (wsV RX3 26 RX3 yX3_isBarred wsX3_isBarred) := goodIn_app (goodIn_of _ (by decide +kernel)) ggX3_isSettled_X3_isBarred
set_option maxRecDepth 20000 in
theorem ggX3_isSettled_X6_at : GoodIn wsX3_isSettled wsX6_at := goodIn_r _ [12, 13, 16] (by decide +kernel) (by decide +kernel)
set_option maxRecDepth 20000 in
theorem gX3_isSettled_X6_at : GoodIn wsX3_isSettled (wsV RX3 20 RX6 yX6_at wsX6_at) := goodIn_app (goodIn_of _ (by decide +kernel)) ggX3_isSettled_X6_at
theorem dX3_isSettled_0 : decode cX3_isSettled 0 = .ok (.iconst 0, 1) := by decide +kernel
theorem dX3_isSettled_1 : decode cX3_isSettled 1 = .ok (.istore_n 3, 1) := by decide +kernel
theorem dX3_isSettled_2 : decode cX3_isSettled 2 = .ok (.iconst 0, 1) := by decide +kernel
theorem dX3_isSettled_3 : decode cX3_isSettled 3 = .ok (.istore 4, 2) := by decide +kernel
theorem dX3_isSettled_5 : decode cX3_isSettled 5 = .ok (.iload 4, 2) := by decide +kernel
theorem dX3_isSettled_7 : decode cX3_isSettled 7 = .ok (.aload_n 0, 1) := by decide +kernel
theorem dX3_isSettled_8 : decode cX3_isSettled 8 = .ok (.getfield 9, 3) := by decide +kernel
theorem dX3_isSettled_11 : decode cX3_isSettled 11 = .ok (.if_icmp .ge 49, 3) := by decide +kernel
theorem dX3_isSettled_14 : decode cX3_isSettled 14 = .ok (.aload_n 0, 1) := by decide +kernel
theorem dX3_isSettled_15 : decode cX3_isSettled 15 = .ok (.iload 4, 2) := by decide +kernel
theorem dX3_isSettled_17 : decode cX3_isSettled 17 = .ok (.iload_n 2, 1) := by decide +kernel
theorem dX3_isSettled_18 : decode cX3_isSettled 18 = .ok (.invokevirtual 26, 3) := by decide +kernel
theorem dX3_isSettled_21 : decode cX3_isSettled 21 = .ok (.ifCond .eq 6, 3) := by decide +kernel
theorem dX3_isSettled_24 : decode cX3_isSettled 24 = .ok (.goto 30, 3) := by decide +kernel
theorem dX3_isSettled_27 : decode cX3_isSettled 27 = .ok (.aload_n 1, 1) := by decide +kernel
theorem dX3_isSettled_28 : decode cX3_isSettled 28 = .ok (.iload 4, 2) := by decide +kernel
theorem dX3_isSettled_30 : decode cX3_isSettled 30 = .ok (.iload_n 2, 1) := by decide +kernel
theorem dX3_isSettled_31 : decode cX3_isSettled 31 = .ok (.invokevirtual 20, 3) := by decide +kernel
theorem dX3_isSettled_34 : decode cX3_isSettled 34 = .ok (.istore 5, 2) := by decide +kernel
theorem dX3_isSettled_36 : decode cX3_isSettled 36 = .ok (.iload 5, 2) := by decide +kernel
theorem dX3_isSettled_38 : decode cX3_isSettled 38 = .ok (.iconst (-1), 1) := by decide +kernel
theorem dX3_isSettled_39 : decode cX3_isSettled 39 = .ok (.if_icmp .ne 5, 3) := by decide +kernel
theorem dX3_isSettled_42 : decode cX3_isSettled 42 = .ok (.iconst 0, 1) := by decide +kernel
theorem dX3_isSettled_43 : decode cX3_isSettled 43 = .ok (.ireturn, 1) := by decide +kernel
theorem dX3_isSettled_44 : decode cX3_isSettled 44 = .ok (.iload 5, 2) := by decide +kernel
theorem dX3_isSettled_46 : decode cX3_isSettled 46 = .ok (.bipush (-2), 2) := by decide +kernel
theorem dX3_isSettled_48 : decode cX3_isSettled 48 = .ok (.if_icmp .eq 6, 3) := by decide +kernel
theorem dX3_isSettled_51 : decode cX3_isSettled 51 = .ok (.iinc 3 1, 3) := by decide +kernel
theorem dX3_isSettled_54 : decode cX3_isSettled 54 = .ok (.iinc 4 1, 3) := by decide +kernel
theorem dX3_isSettled_57 : decode cX3_isSettled 57 = .ok (.goto (-52), 3) := by decide +kernel
theorem dX3_isSettled_60 : decode cX3_isSettled 60 = .ok (.iload_n 3, 1) := by decide +kernel
theorem dX3_isSettled_61 : decode cX3_isSettled 61 = .ok (.aload_n 0, 1) := by decide +kernel
theorem dX3_isSettled_62 : decode cX3_isSettled 62 = .ok (.getfield 9, 3) := by decide +kernel
theorem dX3_isSettled_65 : decode cX3_isSettled 65 = .ok (.iconst 1, 1) := by decide +kernel
theorem dX3_isSettled_66 : decode cX3_isSettled 66 = .ok (.iadd, 1) := by decide +kernel
theorem dX3_isSettled_67 : decode cX3_isSettled 67 = .ok (.iconst 2, 1) := by decide +kernel
theorem dX3_isSettled_68 : decode cX3_isSettled 68 = .ok (.idiv, 1) := by decide +kernel
theorem dX3_isSettled_69 : decode cX3_isSettled 69 = .ok (.if_icmp .lt 7, 3) := by decide +kernel
theorem dX3_isSettled_72 : decode cX3_isSettled 72 = .ok (.iconst 1, 1) := by decide +kernel
theorem dX3_isSettled_73 : decode cX3_isSettled 73 = .ok (.goto 4, 3) := by decide +kernel
theorem dX3_isSettled_76 : decode cX3_isSettled 76 = .ok (.iconst 0, 1) := by decide +kernel
theorem dX3_isSettled_77 : decode cX3_isSettled 77 = .ok (.ireturn, 1) := by decide +kernel
set_option maxRecDepth 20000 in
theorem ggX3_meanOf_X3_meanIf : GoodIn wsX3_meanOf wsX3_meanIf := goodIn_r _ [5, 6, 7, 8, 9, 10, 11, 12, 13, 14, 15, 16, 17, 18, 19, 20, 21, 22, 4, 23, 24, 25, 26, 27] (by decide +kernel) (by decide +kernel)
set_option maxRecDepth 20000 in
theorem gX3_meanOf_X3_meanIf : GoodIn wsX3_meanOf (wsV RX3 34 RX3 yX3_meanIf wsX3_meanIf) := goodIn_app (goodIn_of _ (by decide +kernel)) ggX3_meanOf_X3_meanIf
theorem dX3_meanOf_0 : decode cX3_meanOf 0 = .ok (.aload_n 0, 1) := by decide +kernel
theorem dX3_meanOf_1 : decode cX3_meanOf 1 = .ok (.aload_n 1, 1) := by decide +kernel
theorem dX3_meanOf_2 : decode cX3_meanOf 2 = .ok (.iload_n 2, 1) := by decide +kernel
theorem dX3_meanOf_3 : decode cX3_meanOf 3 = .ok (.iconst (-1), 1) := by decide +kernel
theorem dX3_meanOf_4 : decode cX3_meanOf 4 = .ok (.iconst (-1), 1) := by decide +kernel
theorem dX3_meanOf_5 : decode cX3_meanOf 5 = .ok (.invokevirtual 34, 3) := by decide +kernel
theorem dX3_meanOf_8 : decode cX3_meanOf 8 = .ok (.ireturn, 1) := by decide +kernel
set_option maxRecDepth 20000 in
theorem ggX3_meanIf_X6_at : GoodIn wsX3_meanIf wsX6_at := goodIn_r _ [13, 14, 23] (by decide +kernel) (by decide +kernel)
set_option maxRecDepth 20000 in
theorem gX3_meanIf_X6_at : GoodIn wsX3_meanIf (wsV RX3 20 RX6 yX6_at wsX6_at) := goodIn_app (goodIn_of _ (by decide +kernel)) ggX3_meanIf_X6_at
set_option maxRecDepth 20000 in
theorem ggX3_meanIf_X3_isBarred : GoodIn wsX3_meanIf wsX3_isBarred := goodIn_r _ [19, 20, 21, 22] (by decide +kernel) (by decide +kernel)
set_option maxRecDepth 20000 in
theorem gX3_meanIf_X3_isBarred : GoodIn wsX3_meanIf (wsV RX3 26 RX3 yX3_isBarred wsX3_isBarred) := goodIn_app (goodIn_of _ (by decide +kernel)) ggX3_meanIf_X3_isBarred
theorem dX3_meanIf_0 : decode cX3_meanIf 0 = .ok (.iconst 0, 1) := by decide +kernel
theorem dX3_meanIf_1 : decode cX3_meanIf 1 = .ok (.istore 5, 2) := by decide +kernel
theorem dX3_meanIf_3 : decode cX3_meanIf 3 = .ok (.iconst 0, 1) := by decide +kernel
theorem dX3_meanIf_4 : decode cX3_meanIf 4 = .ok (.istore 6, 2) := by decide +kernel
theorem dX3_meanIf_6 : decode cX3_meanIf 6 = .ok (.bipush 100, 2) := by decide +kernel
theorem dX3_meanIf_8 : decode cX3_meanIf 8 = .ok (.istore 7, 2) := by decide +kernel
theorem dX3_meanIf_10 : decode cX3_meanIf 10 = .ok (.iconst 0, 1) := by decide +kernel
theorem dX3_meanIf_11 : decode cX3_meanIf 11 = .ok (.istore 8, 2) := by decide +kernel
theorem dX3_meanIf_13 : decode cX3_meanIf 13 = .ok (.iconst 0, 1) := by decide +kernel
theorem dX3_meanIf_14 : decode cX3_meanIf 14 = .ok (.istore 9, 2) := by decide +kernel
theorem dX3_meanIf_16 : decode cX3_meanIf 16 = .ok (.iload 9, 2) := by decide +kernel
theorem dX3_meanIf_18 : decode cX3_meanIf 18 = .ok (.aload_n 0, 1) := by decide +kernel
theorem dX3_meanIf_19 : decode cX3_meanIf 19 = .ok (.getfield 9, 3) := by decide +kernel
theorem dX3_meanIf_22 : decode cX3_meanIf 22 = .ok (.if_icmp .ge 72, 3) := by decide +kernel
theorem dX3_meanIf_25 : decode cX3_meanIf 25 = .ok (.iload 9, 2) := by decide +kernel
theorem dX3_meanIf_27 : decode cX3_meanIf 27 = .ok (.iload_n 3, 1) := by decide +kernel
theorem dX3_meanIf_28 : decode cX3_meanIf 28 = .ok (.if_icmp .ne 8, 3) := by decide +kernel
theorem dX3_meanIf_31 : decode cX3_meanIf 31 = .ok (.iload 4, 2) := by decide +kernel
theorem dX3_meanIf_33 : decode cX3_meanIf 33 = .ok (.goto 10, 3) := by decide +kernel
theorem dX3_meanIf_36 : decode cX3_meanIf 36 = .ok (.aload_n 1, 1) := by decide +kernel
theorem dX3_meanIf_37 : decode cX3_meanIf 37 = .ok (.iload 9, 2) := by decide +kernel
theorem dX3_meanIf_39 : decode cX3_meanIf 39 = .ok (.iload_n 2, 1) := by decide +kernel
theorem dX3_meanIf_40 : decode cX3_meanIf 40 = .ok (.invokevirtual 20, 3) := by decide +kernel
theorem dX3_meanIf_43 : decode cX3_meanIf 43 = .ok (.istore 10, 2) := by decide +kernel
theorem dX3_meanIf_45 : decode cX3_meanIf 45 = .ok (.iload 10, 2) := by decide +kernel
theorem dX3_meanIf_47 : decode cX3_meanIf 47 = .ok (.ifCond .lt 41, 3) := by decide +kernel
theorem dX3_meanIf_50 : decode cX3_meanIf 50 = .ok (.aload_n 0, 1) := by decide +kernel
theorem dX3_meanIf_51 : decode cX3_meanIf 51 = .ok (.iload 9, 2) := by decide +kernel
theorem dX3_meanIf_53 : decode cX3_meanIf 53 = .ok (.iload_n 2, 1) := by decide +kernel
theorem dX3_meanIf_54 : decode cX3_meanIf 54 = .ok (.invokevirtual 26, 3) := by decide +kernel
theorem dX3_meanIf_57 : decode cX3_meanIf 57 = .ok (.ifCond .ne 31, 3) := by decide +kernel
theorem dX3_meanIf_60 : decode cX3_meanIf 60 = .ok (.iinc 5 1, 3) := by decide +kernel
theorem dX3_meanIf_63 : decode cX3_meanIf 63 = .ok (.iload 6, 2) := by decide +kernel
theorem dX3_meanIf_65 : decode cX3_meanIf 65 = .ok (.iload 10, 2) := by decide +kernel
theorem dX3_meanIf_67 : decode cX3_meanIf 67 = .ok (.iadd, 1) := by decide +kernel
theorem dX3_meanIf_68 : decode cX3_meanIf 68 = .ok (.istore 6, 2) := by decide +kernel
theorem dX3_meanIf_70 : decode cX3_meanIf 70 = .ok (.iload 7, 2) := by decide +kernel
theorem dX3_meanIf_72 : decode cX3_meanIf 72 = .ok (.iload 10, 2) := by decide +kernel
theorem dX3_meanIf_74 : decode cX3_meanIf 74 = .ok (.invokestatic 38, 3) := by decide +kernel
theorem dX3_meanIf_77 : decode cX3_meanIf 77 = .ok (.istore 7, 2) := by decide +kernel
theorem dX3_meanIf_79 : decode cX3_meanIf 79 = .ok (.iload 8, 2) := by decide +kernel
theorem dX3_meanIf_81 : decode cX3_meanIf 81 = .ok (.iload 10, 2) := by decide +kernel
theorem dX3_meanIf_83 : decode cX3_meanIf 83 = .ok (.invokestatic 43, 3) := by decide +kernel
theorem dX3_meanIf_86 : decode cX3_meanIf 86 = .ok (.istore 8, 2) := by decide +kernel
theorem dX3_meanIf_88 : decode cX3_meanIf 88 = .ok (.iinc 9 1, 3) := by decide +kernel
theorem dX3_meanIf_91 : decode cX3_meanIf 91 = .ok (.goto (-75), 3) := by decide +kernel
theorem dX3_meanIf_94 : decode cX3_meanIf 94 = .ok (.iload 5, 2) := by decide +kernel
theorem dX3_meanIf_96 : decode cX3_meanIf 96 = .ok (.iconst 4, 1) := by decide +kernel
theorem dX3_meanIf_97 : decode cX3_meanIf 97 = .ok (.if_icmp .lt 16, 3) := by decide +kernel
theorem dX3_meanIf_100 : decode cX3_meanIf 100 = .ok (.iinc 5 (-2), 3) := by decide +kernel
theorem dX3_meanIf_103 : decode cX3_meanIf 103 = .ok (.iload 6, 2) := by decide +kernel
theorem dX3_meanIf_105 : decode cX3_meanIf 105 = .ok (.iload 7, 2) := by decide +kernel
theorem dX3_meanIf_107 : decode cX3_meanIf 107 = .ok (.iload 8, 2) := by decide +kernel
theorem dX3_meanIf_109 : decode cX3_meanIf 109 = .ok (.iadd, 1) := by decide +kernel
theorem dX3_meanIf_110 : decode cX3_meanIf 110 = .ok (.isub, 1) := by decide +kernel
theorem dX3_meanIf_111 : decode cX3_meanIf 111 = .ok (.istore 6, 2) := by decide +kernel
theorem dX3_meanIf_113 : decode cX3_meanIf 113 = .ok (.iload 5, 2) := by decide +kernel
theorem dX3_meanIf_115 : decode cX3_meanIf 115 = .ok (.ifCond .le 15, 3) := by decide +kernel
theorem dX3_meanIf_118 : decode cX3_meanIf 118 = .ok (.iload 6, 2) := by decide +kernel
theorem dX3_meanIf_120 : decode cX3_meanIf 120 = .ok (.sipush 1000, 3) := by decide +kernel
theorem dX3_meanIf_123 : decode cX3_meanIf 123 = .ok (.imul, 1) := by decide +kernel
theorem dX3_meanIf_124 : decode cX3_meanIf 124 = .ok (.iload 5, 2) := by decide +kernel
theorem dX3_meanIf_126 : decode cX3_meanIf 126 = .ok (.idiv, 1) := by decide +kernel
theorem dX3_meanIf_127 : decode cX3_meanIf 127 = .ok (.goto 4, 3) := by decide +kernel
theorem dX3_meanIf_130 : decode cX3_meanIf 130 = .ok (.iconst (-1), 1) := by decide +kernel
theorem dX3_meanIf_131 : decode cX3_meanIf 131 = .ok (.ireturn, 1) := by decide +kernel
set_option maxRecDepth 20000 in
theorem ggX3_copyFrom_X11_copyRows : GoodIn wsX3_copyFrom wsX11_copyRows := goodIn_r _ [5, 6, 7, 8, 9, 10, 11, 12, 13] (by decide +kernel) (by decide +kernel)
set_option maxRecDepth 20000 in
theorem gX3_copyFrom_X11_copyRows_n46 : GoodIn wsX3_copyFrom (wsX11_copyRows) := ggX3_copyFrom_X11_copyRows
theorem dX3_copyFrom_0 : decode cX3_copyFrom 0 = .ok (.aload_n 0, 1) := by decide +kernel
theorem dX3_copyFrom_1 : decode cX3_copyFrom 1 = .ok (.aload_n 1, 1) := by decide +kernel
theorem dX3_copyFrom_2 : decode cX3_copyFrom 2 = .ok (.getfield 9, 3) := by decide +kernel
theorem dX3_copyFrom_5 : decode cX3_copyFrom 5 = .ok (.putfield 9, 3) := by decide +kernel
theorem dX3_copyFrom_8 : decode cX3_copyFrom 8 = .ok (.aload_n 1, 1) := by decide +kernel
theorem dX3_copyFrom_9 : decode cX3_copyFrom 9 = .ok (.getfield 17, 3) := by decide +kernel
theorem dX3_copyFrom_12 : decode cX3_copyFrom 12 = .ok (.aload_n 0, 1) := by decide +kernel
theorem dX3_copyFrom_13 : decode cX3_copyFrom 13 = .ok (.getfield 17, 3) := by decide +kernel
theorem dX3_copyFrom_16 : decode cX3_copyFrom 16 = .ok (.invokestatic 46, 3) := by decide +kernel
theorem dX3_copyFrom_19 : decode cX3_copyFrom 19 = .ok (.return_, 1) := by decide +kernel
set_option maxRecDepth 20000 in
theorem ggX4_init_J7_fill_53178 : GoodIn wsX4_init wsJ7_fill_53178 := goodIn_r _ [9] (by decide +kernel) (by decide +kernel)
set_option maxRecDepth 20000 in
theorem gX4_init_J7_fill_53178 : GoodIn wsX4_init (va_wsS RX4 15 yJ7_fill_53178 wsJ7_fill_53178) := goodIn_app (goodIn_of _ (by decide +kernel)) ggX4_init_J7_fill_53178
theorem dX4_init_0 : decode cX4_init 0 = .ok (.aload_n 0, 1) := by decide +kernel
theorem dX4_init_1 : decode cX4_init 1 = .ok (.invokespecial 3, 3) := by decide +kernel
theorem dX4_init_4 : decode cX4_init 4 = .ok (.aload_n 0, 1) := by decide +kernel
theorem dX4_init_5 : decode cX4_init 5 = .ok (.sipush 192, 3) := by decide +kernel
theorem dX4_init_8 : decode cX4_init 8 = .ok (.newarray .int, 2) := by decide +kernel
theorem dX4_init_10 : decode cX4_init 10 = .ok (.putfield 9, 3) := by decide +kernel
theorem dX4_init_13 : decode cX4_init 13 = .ok (.aload_n 0, 1) := by decide +kernel
theorem dX4_init_14 : decode cX4_init 14 = .ok (.getfield 9, 3) := by decide +kernel
theorem dX4_init_17 : decode cX4_init 17 = .ok (.iconst (-1), 1) := by decide +kernel
theorem dX4_init_18 : decode cX4_init 18 = .ok (.invokestatic 15, 3) := by decide +kernel
theorem dX4_init_21 : decode cX4_init 21 = .ok (.return_, 1) := by decide +kernel
theorem dX4_workAt_0 : decode cX4_workAt 0 = .ok (.iload_n 1, 1) := by decide +kernel
theorem dX4_workAt_1 : decode cX4_workAt 1 = .ok (.ifCond .lt 31, 3) := by decide +kernel
theorem dX4_workAt_4 : decode cX4_workAt 4 = .ok (.iload_n 1, 1) := by decide +kernel
theorem dX4_workAt_5 : decode cX4_workAt 5 = .ok (.bipush 12, 2) := by decide +kernel
theorem dX4_workAt_7 : decode cX4_workAt 7 = .ok (.if_icmp .ge 25, 3) := by decide +kernel
theorem dX4_workAt_10 : decode cX4_workAt 10 = .ok (.iload_n 2, 1) := by decide +kernel
theorem dX4_workAt_11 : decode cX4_workAt 11 = .ok (.ifCond .lt 21, 3) := by decide +kernel
theorem dX4_workAt_14 : decode cX4_workAt 14 = .ok (.iload_n 2, 1) := by decide +kernel
theorem dX4_workAt_15 : decode cX4_workAt 15 = .ok (.iconst 4, 1) := by decide +kernel
theorem dX4_workAt_16 : decode cX4_workAt 16 = .ok (.if_icmp .ge 16, 3) := by decide +kernel
theorem dX4_workAt_19 : decode cX4_workAt 19 = .ok (.iload_n 3, 1) := by decide +kernel
theorem dX4_workAt_20 : decode cX4_workAt 20 = .ok (.ifCond .lt 12, 3) := by decide +kernel
theorem dX4_workAt_23 : decode cX4_workAt 23 = .ok (.iload_n 3, 1) := by decide +kernel
theorem dX4_workAt_24 : decode cX4_workAt 24 = .ok (.iconst 4, 1) := by decide +kernel
theorem dX4_workAt_25 : decode cX4_workAt 25 = .ok (.if_icmp .ge 7, 3) := by decide +kernel
theorem dX4_workAt_28 : decode cX4_workAt 28 = .ok (.iconst 1, 1) := by decide +kernel
theorem dX4_workAt_29 : decode cX4_workAt 29 = .ok (.goto 4, 3) := by decide +kernel
theorem dX4_workAt_32 : decode cX4_workAt 32 = .ok (.iconst 0, 1) := by decide +kernel
theorem dX4_workAt_33 : decode cX4_workAt 33 = .ok (.istore 4, 2) := by decide +kernel
theorem dX4_workAt_35 : decode cX4_workAt 35 = .ok (.iload 4, 2) := by decide +kernel
theorem dX4_workAt_37 : decode cX4_workAt 37 = .ok (.ifCond .eq 20, 3) := by decide +kernel
theorem dX4_workAt_40 : decode cX4_workAt 40 = .ok (.aload_n 0, 1) := by decide +kernel
theorem dX4_workAt_41 : decode cX4_workAt 41 = .ok (.getfield 9, 3) := by decide +kernel
theorem dX4_workAt_44 : decode cX4_workAt 44 = .ok (.iload_n 1, 1) := by decide +kernel
theorem dX4_workAt_45 : decode cX4_workAt 45 = .ok (.iconst 4, 1) := by decide +kernel
theorem dX4_workAt_46 : decode cX4_workAt 46 = .ok (.imul, 1) := by decide +kernel
theorem dX4_workAt_47 : decode cX4_workAt 47 = .ok (.iload_n 2, 1) := by decide +kernel
theorem dX4_workAt_48 : decode cX4_workAt 48 = .ok (.iadd, 1) := by decide +kernel
theorem dX4_workAt_49 : decode cX4_workAt 49 = .ok (.iconst 4, 1) := by decide +kernel
theorem dX4_workAt_50 : decode cX4_workAt 50 = .ok (.imul, 1) := by decide +kernel
theorem dX4_workAt_51 : decode cX4_workAt 51 = .ok (.iload_n 3, 1) := by decide +kernel
theorem dX4_workAt_52 : decode cX4_workAt 52 = .ok (.iadd, 1) := by decide +kernel
theorem dX4_workAt_53 : decode cX4_workAt 53 = .ok (.iaload, 1) := by decide +kernel
theorem dX4_workAt_54 : decode cX4_workAt 54 = .ok (.goto 4, 3) := by decide +kernel
theorem dX4_workAt_57 : decode cX4_workAt 57 = .ok (.iconst (-1), 1) := by decide +kernel
theorem dX4_workAt_58 : decode cX4_workAt 58 = .ok (.ireturn, 1) := by decide +kernel
theorem dX4_put_0 : decode cX4_put 0 = .ok (.iload_n 1, 1) := by decide +kernel
theorem dX4_put_1 : decode cX4_put 1 = .ok (.ifCond .lt 31, 3) := by decide +kernel
theorem dX4_put_4 : decode cX4_put 4 = .ok (.iload_n 1, 1) := by decide +kernel
theorem dX4_put_5 : decode cX4_put 5 = .ok (.bipush 12, 2) := by decide +kernel
theorem dX4_put_7 : decode cX4_put 7 = .ok (.if_icmp .ge 25, 3) := by decide +kernel
theorem dX4_put_10 : decode cX4_put 10 = .ok (.iload_n 2, 1) := by decide +kernel
theorem dX4_put_11 : decode cX4_put 11 = .ok (.ifCond .lt 21, 3) := by decide +kernel
theorem dX4_put_14 : decode cX4_put 14 = .ok (.iload_n 2, 1) := by decide +kernel
theorem dX4_put_15 : decode cX4_put 15 = .ok (.iconst 4, 1) := by decide +kernel
theorem dX4_put_16 : decode cX4_put 16 = .ok (.if_icmp .ge 16, 3) := by decide +kernel
theorem dX4_put_19 : decode cX4_put 19 = .ok (.iload_n 3, 1) := by decide +kernel
theorem dX4_put_20 : decode cX4_put 20 = .ok (.ifCond .lt 12, 3) := by decide +kernel
theorem dX4_put_23 : decode cX4_put 23 = .ok (.iload_n 3, 1) := by decide +kernel
theorem dX4_put_24 : decode cX4_put 24 = .ok (.iconst 4, 1) := by decide +kernel
theorem dX4_put_25 : decode cX4_put 25 = .ok (.if_icmp .ge 7, 3) := by decide +kernel
theorem dX4_put_28 : decode cX4_put 28 = .ok (.iconst 1, 1) := by decide +kernel
theorem dX4_put_29 : decode cX4_put 29 = .ok (.goto 4, 3) := by decide +kernel
theorem dX4_put_32 : decode cX4_put 32 = .ok (.iconst 0, 1) := by decide +kernel
theorem dX4_put_33 : decode cX4_put 33 = .ok (.istore 5, 2) := by decide +kernel
theorem dX4_put_35 : decode cX4_put 35 = .ok (.iload 5, 2) := by decide +kernel
theorem dX4_put_37 : decode cX4_put 37 = .ok (.ifCond .eq 19, 3) := by decide +kernel
theorem dX4_put_40 : decode cX4_put 40 = .ok (.aload_n 0, 1) := by decide +kernel
theorem dX4_put_41 : decode cX4_put 41 = .ok (.getfield 9, 3) := by decide +kernel
theorem dX4_put_44 : decode cX4_put 44 = .ok (.iload_n 1, 1) := by decide +kernel
theorem dX4_put_45 : decode cX4_put 45 = .ok (.iconst 4, 1) := by decide +kernel
theorem dX4_put_46 : decode cX4_put 46 = .ok (.imul, 1) := by decide +kernel
theorem dX4_put_47 : decode cX4_put 47 = .ok (.iload_n 2, 1) := by decide +kernel
theorem dX4_put_48 : decode cX4_put 48 = .ok (.iadd, 1) := by decide +kernel
theorem dX4_put_49 : decode cX4_put 49 = .ok (.iconst 4, 1) := by decide +kernel
theorem dX4_put_50 : decode cX4_put 50 = .ok (.imul, 1) := by decide +kernel
theorem dX4_put_51 : decode cX4_put 51 = .ok (.iload_n 3, 1) := by decide +kernel
theorem dX4_put_52 : decode cX4_put 52 = .ok (.iadd, 1) := by decide +kernel
theorem dX4_put_53 : decode cX4_put 53 = .ok (.iload 4, 2) := by decide +kernel
theorem dX4_put_55 : decode cX4_put 55 = .ok (.iastore, 1) := by decide +kernel
theorem dX4_put_56 : decode cX4_put 56 = .ok (.return_, 1) := by decide +kernel
set_option maxRecDepth 20000 in
theorem ggX4_empty_X4_put : GoodIn wsX4_empty wsX4_put := goodIn_r _ [5, 6, 7] (by decide +kernel) (by decide +kernel)
set_option maxRecDepth 20000 in
theorem gX4_empty_X4_put : GoodIn wsX4_empty (wsV RX4 21 RX4 yX4_put wsX4_put) := goodIn_app (goodIn_of _ (by decide +kernel)) ggX4_empty_X4_put
theorem dX4_empty_0 : decode cX4_empty 0 = .ok (.iconst 0, 1) := by decide +kernel
theorem dX4_empty_1 : decode cX4_empty 1 = .ok (.istore_n 3, 1) := by decide +kernel
theorem dX4_empty_2 : decode cX4_empty 2 = .ok (.iload_n 3, 1) := by decide +kernel
theorem dX4_empty_3 : decode cX4_empty 3 = .ok (.iconst 4, 1) := by decide +kernel
theorem dX4_empty_4 : decode cX4_empty 4 = .ok (.if_icmp .ge 17, 3) := by decide +kernel
theorem dX4_empty_7 : decode cX4_empty 7 = .ok (.aload_n 0, 1) := by decide +kernel
theorem dX4_empty_8 : decode cX4_empty 8 = .ok (.iload_n 1, 1) := by decide +kernel
theorem dX4_empty_9 : decode cX4_empty 9 = .ok (.iload_n 2, 1) := by decide +kernel
theorem dX4_empty_10 : decode cX4_empty 10 = .ok (.iload_n 3, 1) := by decide +kernel
theorem dX4_empty_11 : decode cX4_empty 11 = .ok (.iconst (-1), 1) := by decide +kernel
theorem dX4_empty_12 : decode cX4_empty 12 = .ok (.invokevirtual 21, 3) := by decide +kernel
theorem dX4_empty_15 : decode cX4_empty 15 = .ok (.iinc 3 1, 3) := by decide +kernel
theorem dX4_empty_18 : decode cX4_empty 18 = .ok (.goto (-16), 3) := by decide +kernel
theorem dX4_empty_21 : decode cX4_empty 21 = .ok (.return_, 1) := by decide +kernel
set_option maxRecDepth 20000 in
theorem ggX4_sizeOf_X4_workAt : GoodIn wsX4_sizeOf wsX4_workAt := goodIn_r _ [5, 6, 7] (by decide +kernel) (by decide +kernel)
set_option maxRecDepth 20000 in
theorem gX4_sizeOf_X4_workAt : GoodIn wsX4_sizeOf (wsV RX4 25 RX4 yX4_workAt wsX4_workAt) := goodIn_app (goodIn_of _ (by decide +kernel)) ggX4_sizeOf_X4_workAt
theorem dX4_sizeOf_0 : decode cX4_sizeOf 0 = .ok (.iconst 0, 1) := by decide +kernel
theorem dX4_sizeOf_1 : decode cX4_sizeOf 1 = .ok (.istore_n 3, 1) := by decide +kernel
theorem dX4_sizeOf_2 : decode cX4_sizeOf 2 = .ok (.iload_n 3, 1) := by decide +kernel
theorem dX4_sizeOf_3 : decode cX4_sizeOf 3 = .ok (.iconst 4, 1) := by decide +kernel
theorem dX4_sizeOf_4 : decode cX4_sizeOf 4 = .ok (.if_icmp .ge 20, 3) := by decide +kernel
theorem dX4_sizeOf_7 : decode cX4_sizeOf 7 = .ok (.aload_n 0, 1) := by decide +kernel
theorem dX4_sizeOf_8 : decode cX4_sizeOf 8 = .ok (.iload_n 1, 1) := by decide +kernel
theorem dX4_sizeOf_9 : decode cX4_sizeOf 9 = .ok (.iload_n 2, 1) := by decide +kernel
theorem dX4_sizeOf_10 : decode cX4_sizeOf 10 = .ok (.iload_n 3, 1) := by decide +kernel
theorem dX4_sizeOf_11 : decode cX4_sizeOf 11 = .ok (.invokevirtual 25, 3) := by decide +kernel
theorem dX4_sizeOf_14 : decode cX4_sizeOf 14 = .ok (.iconst (-1), 1) := by decide +kernel
theorem dX4_sizeOf_15 : decode cX4_sizeOf 15 = .ok (.if_icmp .eq 9, 3) := by decide +kernel
theorem dX4_sizeOf_18 : decode cX4_sizeOf 18 = .ok (.iinc 3 1, 3) := by decide +kernel
theorem dX4_sizeOf_21 : decode cX4_sizeOf 21 = .ok (.goto (-19), 3) := by decide +kernel
theorem dX4_sizeOf_24 : decode cX4_sizeOf 24 = .ok (.iload_n 3, 1) := by decide +kernel
theorem dX4_sizeOf_25 : decode cX4_sizeOf 25 = .ok (.ireturn, 1) := by decide +kernel
set_option maxRecDepth 20000 in
theorem ggX4_flawOf_X4_sizeOf : GoodIn wsX4_flawOf wsX4_sizeOf := goodIn_r _ [5, 6, 7, 8, 4, 9, 10, 56] (by decide +kernel) (by decide +kernel)
set_option maxRecDepth 20000 in
theorem gX4_flawOf_X4_sizeOf : GoodIn wsX4_flawOf (wsV RX4 29 RX4 yX4_sizeOf wsX4_sizeOf) := goodIn_app (goodIn_of _ (by decide +kernel)) ggX4_flawOf_X4_sizeOf
set_option maxRecDepth 20000 in
theorem ggX4_flawOf_X4_minutesOf : GoodIn wsX4_flawOf wsX4_minutesOf := goodIn_r _ [14, 6, 7, 8, 4, 9, 10, 15, 16, 17, 18, 19, 20, 21, 22, 23, 24, 25, 56, 57, 58, 59, 60] (by decide +kernel) (by decide +kernel)
set_option maxRecDepth 20000 in
theorem gX4_flawOf_X4_minutesOf : GoodIn wsX4_flawOf (wsV RX4 33 RX4 yX4_minutesOf wsX4_minutesOf) := goodIn_app (goodIn_of _ (by decide +kernel)) ggX4_flawOf_X4_minutesOf
set_option maxRecDepth 20000 in
theorem ggX4_flawOf_X4_erasOf : GoodIn wsX4_flawOf wsX4_erasOf := goodIn_r _ [29, 6, 7, 8, 4, 9, 10, 30, 31, 32, 18, 33, 34, 21, 22, 23, 24, 25, 56, 57, 58, 59, 60] (by decide +kernel) (by decide +kernel)
set_option maxRecDepth 20000 in
theorem gX4_flawOf_X4_erasOf : GoodIn wsX4_flawOf (wsV RX4 37 RX4 yX4_erasOf wsX4_erasOf) := goodIn_app (goodIn_of _ (by decide +kernel)) ggX4_flawOf_X4_erasOf
set_option maxRecDepth 20000 in
theorem ggX4_flawOf_X4_mostOfOneComposer : GoodIn wsX4_flawOf wsX4_mostOfOneComposer := goodIn_r _ [38, 39, 40, 41, 42, 6, 7, 8, 4, 9, 10, 43, 44, 45, 18, 46, 47, 21, 22, 23, 24, 25, 56, 57, 58, 59, 60] (by decide +kernel) (by decide +kernel)
set_option maxRecDepth 20000 in
theorem gX4_flawOf_X4_mostOfOneComposer : GoodIn wsX4_flawOf (wsV RX4 40 RX4 yX4_mostOfOneComposer wsX4_mostOfOneComposer) := goodIn_app (goodIn_of _ (by decide +kernel)) ggX4_flawOf_X4_mostOfOneComposer
set_option maxRecDepth 20000 in
theorem ggX4_flawOf_X4_repeatsEarlierRound : GoodIn wsX4_flawOf wsX4_repeatsEarlierRound := goodIn_r _ [51, 6, 7, 8, 4, 9, 10, 52, 53, 54, 55, 56] (by decide +kernel) (by decide +kernel)
set_option maxRecDepth 20000 in
theorem gX4_flawOf_X4_repeatsEarlierRound : GoodIn wsX4_flawOf (wsV RX4 43 RX4 yX4_repeatsEarlierRound wsX4_repeatsEarlierRound) := goodIn_app (goodIn_of _ (by decide +kernel)) ggX4_flawOf_X4_repeatsEarlierRound
