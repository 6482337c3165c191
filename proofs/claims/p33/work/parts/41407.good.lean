set_option maxRecDepth 20000 in
theorem c_L_entrant_0 : GoodIn wsL_law [Cond.codeWith yL_entrant cL_entrant 4 (some .int) [(0, 6, 7, 23), (0, 6, 12, 15)]] := goodIn_r _ [664] (by decide +kernel) (by decide +kernel)
set_option maxRecDepth 20000 in
theorem c_L_entrant_r1 : GoodIn wsL_law wsL_entrant_r1 := goodIn_r _ [443, 365, 665, 666, 667, 2, 668, 14, 469, 470, 471, 472, 473, 174, 175, 36, 176, 168, 449, 450, 451, 452, 453, 370] (by decide +kernel) (by decide +kernel)
set_option maxRecDepth 20000 in
theorem c_L_entrant_r2 : GoodIn wsL_law wsL_entrant_r2 := goodIn_r _ [235, 236, 371, 372, 373, 374, 375, 218, 219, 220, 13, 221, 37, 52, 60, 48, 222, 170, 171, 172, 75, 173, 223, 224] (by decide +kernel) (by decide +kernel)
set_option maxRecDepth 20000 in
theorem c_L_entrant_r3 : GoodIn wsL_law wsL_entrant_r3 := goodIn_r _ [225, 51, 226, 101, 227, 228, 229, 230, 95, 231, 232, 233, 234, 96, 237, 238, 239, 240, 241, 242, 243, 244, 27, 56] (by decide +kernel) (by decide +kernel)
set_option maxRecDepth 20000 in
theorem c_L_entrant_r4 : GoodIn wsL_law wsL_entrant_r4 := goodIn_r _ [245, 246, 247, 47, 248, 88, 249, 250, 251, 252, 253, 254, 255, 55, 256, 109, 257, 258, 259, 260, 90, 261, 262, 263] (by decide +kernel) (by decide +kernel)
set_option maxRecDepth 20000 in
theorem c_L_entrant_r5 : GoodIn wsL_law wsL_entrant_r5 := goodIn_r _ [264, 265, 266, 267, 268, 269, 270, 130, 271, 29, 272, 273, 274, 275, 276, 129, 131, 277, 278, 279, 280, 281, 282, 283] (by decide +kernel) (by decide +kernel)
set_option maxRecDepth 20000 in
theorem c_L_entrant_r6 : GoodIn wsL_law wsL_entrant_r6 := goodIn_r _ [284, 285, 286, 287, 288, 289, 290, 291, 292, 293, 59, 294, 118, 295, 296, 297, 298, 299] (by decide +kernel) (by decide +kernel)
set_option maxRecDepth 20000 in
theorem c_L_entrant_X11 : GoodIn wsL_law wsX110 := goodIn_sub inlX11 (by decide +kernel)
set_option maxRecDepth 20000 in
theorem c_L_entrant_X0 : GoodIn wsL_law wsX00 := goodIn_sub inlX0 (by decide +kernel)
set_option maxRecDepth 20000 in
theorem c_L_entrant_X2 : GoodIn wsL_law wsX20 := goodIn_sub inlX2 (by decide +kernel)
set_option maxRecDepth 20000 in
theorem c_L_entrant_X9 : GoodIn wsL_law wsX90 := goodIn_sub inlX9 (by decide +kernel)
set_option maxRecDepth 20000 in
theorem c_L_entrant_X7 : GoodIn wsL_law wsX70 := goodIn_sub inlX7 (by decide +kernel)
set_option maxRecDepth 20000 in
theorem c_L_entrant_X3 : GoodIn wsL_law wsX30 := goodIn_sub inlX3 (by decide +kernel)
set_option maxRecDepth 20000 in
theorem c_L_entrant_X6 : GoodIn wsL_law wsX60 := goodIn_sub inlX6 (by decide +kernel)
set_option maxRecDepth 20000 in
theorem c_L_entrant_x316 : GoodIn wsL_law ((vx_at0 RX11 316 "java/lang/IndexOutOfBoundsException" ["java/lang/RuntimeException", "java/lang/Exception"]).filter goodWord) := goodIn_sub (fun _ h => List.mem_append_right _ h) (by decide +kernel)
set_option maxRecDepth 20000 in
theorem c_L_entrant_x319 : GoodIn wsL_law ((vx_at0 RX11 319 "java/lang/IllegalArgumentException" ["java/lang/RuntimeException", "java/lang/Exception"]).filter goodWord) := goodIn_sub (fun _ h => List.mem_append_left _ (List.mem_append_left _ (List.mem_append_right _ h))) (by decide +kernel)
theorem ggL_law_L_entrant : GoodIn wsL_law wsL_entrant := goodIn_app c_L_entrant_0 (goodIn_app (goodIn_app (goodIn_app (goodIn_app (goodIn_app (goodIn_app (goodIn_app (goodIn_app (goodIn_app (goodIn_app c_L_entrant_r1 (goodIn_app c_L_entrant_r2 (goodIn_app c_L_entrant_r3 (goodIn_app c_L_entrant_r4 (goodIn_app c_L_entrant_r5 c_L_entrant_r6))))) c_L_entrant_X11) c_L_entrant_X0) c_L_entrant_X2) c_L_entrant_X9) c_L_entrant_X7) c_L_entrant_X3) c_L_entrant_X6) c_L_entrant_x316) c_L_entrant_x319)
set_option maxRecDepth 20000 in
theorem gL_law_L_entrant : GoodIn wsL_law (va_wsS RL 106 yL_entrant wsL_entrant) := goodIn_app (goodIn_of _ (by decide +kernel)) ggL_law_L_entrant
