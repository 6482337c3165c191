set_option maxRecDepth 20000 in
theorem c_L_work_0 : GoodIn wsL_law [Cond.codeWith yL_work cL_work 4 (some .int) [(0, 6, 7, 23), (0, 6, 12, 15)]] := goodIn_r _ [442] (by decide +kernel) (by decide +kernel)
set_option maxRecDepth 20000 in
theorem c_L_work_r1 : GoodIn wsL_law wsL_work_r1 := goodIn_r _ [443, 365, 444, 445, 446, 2, 447, 14, 448, 198, 199, 32, 200, 201, 449, 450, 451, 452, 453, 370, 235, 236, 371, 372] (by decide +kernel) (by decide +kernel)
set_option maxRecDepth 20000 in
theorem c_L_work_r2 : GoodIn wsL_law wsL_work_r2 := goodIn_r _ [373, 374, 375, 189, 190, 191, 192, 193, 194, 195, 196, 69, 197, 202, 203, 204, 205, 70, 206, 207, 208, 209, 71] (by decide +kernel) (by decide +kernel)
set_option maxRecDepth 20000 in
theorem c_L_work_X11 : GoodIn wsL_law wsX110 := goodIn_sub inlX11 (by decide +kernel)
set_option maxRecDepth 20000 in
theorem c_L_work_X0 : GoodIn wsL_law wsX00 := goodIn_sub inlX0 (by decide +kernel)
set_option maxRecDepth 20000 in
theorem c_L_work_X10 : GoodIn wsL_law wsX100 := goodIn_sub inlX10 (by decide +kernel)
set_option maxRecDepth 20000 in
theorem c_L_work_x316 : GoodIn wsL_law ((vx_at0 RX11 316 "java/lang/IndexOutOfBoundsException" ["java/lang/RuntimeException", "java/lang/Exception"]).filter goodWord) := goodIn_sub (fun _ h => List.mem_append_right _ h) (by decide +kernel)
set_option maxRecDepth 20000 in
theorem c_L_work_x319 : GoodIn wsL_law ((vx_at0 RX11 319 "java/lang/IllegalArgumentException" ["java/lang/RuntimeException", "java/lang/Exception"]).filter goodWord) := goodIn_sub (fun _ h => List.mem_append_left _ (List.mem_append_left _ (List.mem_append_right _ h))) (by decide +kernel)
theorem ggL_law_L_work : GoodIn wsL_law wsL_work := goodIn_app c_L_work_0 (goodIn_app (goodIn_app (goodIn_app (goodIn_app (goodIn_app (goodIn_app c_L_work_r1 c_L_work_r2) c_L_work_X11) c_L_work_X0) c_L_work_X10) c_L_work_x316) c_L_work_x319)
set_option maxRecDepth 20000 in
theorem gL_law_L_work : GoodIn wsL_law (va_wsS RL 116 yL_work wsL_work) := goodIn_app (goodIn_of _ (by decide +kernel)) ggL_law_L_work
set_option maxRecDepth 20000 in
theorem c_L_addEntrant_0 : GoodIn wsL_law [Cond.codeWith yL_addEntrant cL_addEntrant 2 (some .int) [(0, 4, 5, 17)]] := goodIn_r _ [758] (by decide +kernel) (by decide +kernel)
set_option maxRecDepth 20000 in
theorem c_L_addEntrant_r1 : GoodIn wsL_law wsL_addEntrant_r1 := goodIn_r _ [379, 759, 760, 761, 2, 762, 14, 18, 384, 385, 386, 387, 388, 389, 390, 391, 17, 392, 393, 142, 394, 395, 396, 397] (by decide +kernel) (by decide +kernel)
set_option maxRecDepth 20000 in
theorem c_L_addEntrant_r2 : GoodIn wsL_law wsL_addEntrant_r2 := goodIn_r _ [398, 399, 400, 13, 401, 27, 163, 28, 29, 33, 37, 40, 44, 48, 52, 56, 60, 61, 402, 403, 404, 32, 405, 201] (by decide +kernel) (by decide +kernel)
set_option maxRecDepth 20000 in
theorem c_L_addEntrant_r3 : GoodIn wsL_law wsL_addEntrant_r3 := goodIn_r _ [69, 70, 71, 126, 127, 128, 129, 130, 131, 132, 133, 134, 135, 406, 407, 408, 36, 409, 168, 75, 410, 411, 412, 413] (by decide +kernel) (by decide +kernel)
set_option maxRecDepth 20000 in
theorem c_L_addEntrant_r4 : GoodIn wsL_law wsL_addEntrant_r4 := goodIn_r _ [414, 43, 415, 80, 416, 417, 418, 47, 419, 88, 90, 420, 421, 422, 51, 423, 101, 102, 424, 95, 96, 425, 426, 427] (by decide +kernel) (by decide +kernel)
set_option maxRecDepth 20000 in
theorem c_L_addEntrant_r5 : GoodIn wsL_law wsL_addEntrant_r5 := goodIn_r _ [55, 428, 109, 429, 430, 431, 59, 432, 433, 434, 118, 120, 435, 763, 764, 765, 766] (by decide +kernel) (by decide +kernel)
set_option maxRecDepth 20000 in
theorem c_L_addEntrant_X11 : GoodIn wsL_law wsX110 := goodIn_sub inlX11 (by decide +kernel)
set_option maxRecDepth 20000 in
theorem c_L_addEntrant_X0 : GoodIn wsL_law wsX00 := goodIn_sub inlX0 (by decide +kernel)
set_option maxRecDepth 20000 in
theorem c_L_addEntrant_X2 : GoodIn wsL_law wsX20 := goodIn_sub inlX2 (by decide +kernel)
set_option maxRecDepth 20000 in
theorem c_L_addEntrant_X5 : GoodIn wsL_law wsX50 := goodIn_sub inlX5 (by decide +kernel)
set_option maxRecDepth 20000 in
theorem c_L_addEntrant_X10 : GoodIn wsL_law wsX100 := goodIn_sub inlX10 (by decide +kernel)
set_option maxRecDepth 20000 in
theorem c_L_addEntrant_X4 : GoodIn wsL_law wsX40 := goodIn_sub inlX4 (by decide +kernel)
set_option maxRecDepth 20000 in
theorem c_L_addEntrant_X3 : GoodIn wsL_law wsX30 := goodIn_sub inlX3 (by decide +kernel)
set_option maxRecDepth 20000 in
theorem c_L_addEntrant_X7 : GoodIn wsL_law wsX70 := goodIn_sub inlX7 (by decide +kernel)
set_option maxRecDepth 20000 in
theorem c_L_addEntrant_X6 : GoodIn wsL_law wsX60 := goodIn_sub inlX6 (by decide +kernel)
set_option maxRecDepth 20000 in
theorem c_L_addEntrant_X9 : GoodIn wsL_law wsX90 := goodIn_sub inlX9 (by decide +kernel)
set_option maxRecDepth 20000 in
theorem c_L_addEntrant_x322 : GoodIn wsL_law ((vx_at0 RX11 322 "java/lang/IllegalStateException" ["java/lang/RuntimeException", "java/lang/Exception"]).filter goodWord) := goodIn_sub (fun _ h => List.mem_append_left _ (List.mem_append_right _ h)) (by decide +kernel)
theorem ggL_law_L_addEntrant : GoodIn wsL_law wsL_addEntrant := goodIn_app c_L_addEntrant_0 (goodIn_app (goodIn_app (goodIn_app (goodIn_app (goodIn_app (goodIn_app (goodIn_app (goodIn_app (goodIn_app (goodIn_app (goodIn_app (goodIn_app c_L_addEntrant_r1 (goodIn_app c_L_addEntrant_r2 (goodIn_app c_L_addEntrant_r3 (goodIn_app c_L_addEntrant_r4 c_L_addEntrant_r5)))) c_L_addEntrant_X11) c_L_addEntrant_X0) c_L_addEntrant_X2) c_L_addEntrant_X5) c_L_addEntrant_X10) c_L_addEntrant_X4) c_L_addEntrant_X3) c_L_addEntrant_X7) c_L_addEntrant_X6) c_L_addEntrant_X9) c_L_addEntrant_x322)
set_option maxRecDepth 20000 in
theorem gL_law_L_addEntrant : GoodIn wsL_law (va_wsS RL 161 yL_addEntrant wsL_addEntrant) := goodIn_app (goodIn_of _ (by decide +kernel)) ggL_law_L_addEntrant
