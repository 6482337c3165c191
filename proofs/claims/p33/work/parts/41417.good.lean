set_option maxRecDepth 20000 in
theorem c_L_bar_0 : GoodIn wsL_law [Cond.codeWith yL_bar cL_bar 5 (some .int) [(0, 15, 16, 23)]] := goodIn_r _ [456] (by decide +kernel) (by decide +kernel)
set_option maxRecDepth 20000 in
theorem c_L_bar_r1 : GoodIn wsL_law wsL_bar_r1 := goodIn_r _ [443, 457, 458, 459, 2, 460, 18, 14, 461, 462, 463, 464, 465, 466, 467, 47, 468, 88, 449, 450, 451, 452, 453, 469] (by decide +kernel) (by decide +kernel)
set_option maxRecDepth 20000 in
theorem c_L_bar_r2 : GoodIn wsL_law wsL_bar_r2 := goodIn_r _ [470, 471, 472, 473, 174, 175, 36, 176, 168, 389, 390, 391, 17, 392, 393, 142, 394, 395, 396, 397, 398, 399, 400, 13] (by decide +kernel) (by decide +kernel)
set_option maxRecDepth 20000 in
theorem c_L_bar_r3 : GoodIn wsL_law wsL_bar_r3 := goodIn_r _ [401, 27, 163, 28, 29, 33, 37, 40, 44, 48, 52, 56, 60, 61, 402, 403, 404, 32, 405, 201, 69, 70, 71, 126] (by decide +kernel) (by decide +kernel)
set_option maxRecDepth 20000 in
theorem c_L_bar_r4 : GoodIn wsL_law wsL_bar_r4 := goodIn_r _ [127, 128, 129, 130, 131, 132, 133, 134, 135, 406, 407, 408, 409, 75, 410, 411, 412, 413, 414, 43, 415, 80, 416, 417] (by decide +kernel) (by decide +kernel)
set_option maxRecDepth 20000 in
theorem c_L_bar_r5 : GoodIn wsL_law wsL_bar_r5 := goodIn_r _ [418, 419, 90, 420, 421, 422, 51, 423, 101, 102, 424, 95, 96, 425, 426, 427, 55, 428, 109, 429, 430, 431, 59, 432] (by decide +kernel) (by decide +kernel)
set_option maxRecDepth 20000 in
theorem c_L_bar_r6 : GoodIn wsL_law wsL_bar_r6 := goodIn_r _ [433, 434, 118, 120, 435, 345, 258, 259, 260, 474, 475, 476, 477] (by decide +kernel) (by decide +kernel)
set_option maxRecDepth 20000 in
theorem c_L_bar_X11 : GoodIn wsL_law wsX110 := goodIn_sub inlX11 (by decide +kernel)
set_option maxRecDepth 20000 in
theorem c_L_bar_X0 : GoodIn wsL_law wsX00 := goodIn_sub inlX0 (by decide +kernel)
set_option maxRecDepth 20000 in
theorem c_L_bar_X3 : GoodIn wsL_law wsX30 := goodIn_sub inlX3 (by decide +kernel)
set_option maxRecDepth 20000 in
theorem c_L_bar_X2 : GoodIn wsL_law wsX20 := goodIn_sub inlX2 (by decide +kernel)
set_option maxRecDepth 20000 in
theorem c_L_bar_X5 : GoodIn wsL_law wsX50 := goodIn_sub inlX5 (by decide +kernel)
set_option maxRecDepth 20000 in
theorem c_L_bar_X10 : GoodIn wsL_law wsX100 := goodIn_sub inlX10 (by decide +kernel)
set_option maxRecDepth 20000 in
theorem c_L_bar_X4 : GoodIn wsL_law wsX40 := goodIn_sub inlX4 (by decide +kernel)
set_option maxRecDepth 20000 in
theorem c_L_bar_X7 : GoodIn wsL_law wsX70 := goodIn_sub inlX7 (by decide +kernel)
set_option maxRecDepth 20000 in
theorem c_L_bar_X6 : GoodIn wsL_law wsX60 := goodIn_sub inlX6 (by decide +kernel)
set_option maxRecDepth 20000 in
theorem c_L_bar_X9 : GoodIn wsL_law wsX90 := goodIn_sub inlX9 (by decide +kernel)
set_option maxRecDepth 20000 in
theorem c_L_bar_x316 : GoodIn wsL_law ((vx_at0 RX11 316 "java/lang/IndexOutOfBoundsException" ["java/lang/RuntimeException", "java/lang/Exception"]).filter goodWord) := goodIn_sub (fun _ h => List.mem_append_right _ h) (by decide +kernel)
theorem ggL_law_L_bar : GoodIn wsL_law wsL_bar := goodIn_app c_L_bar_0 (goodIn_app (goodIn_app (goodIn_app (goodIn_app (goodIn_app (goodIn_app (goodIn_app (goodIn_app (goodIn_app (goodIn_app (goodIn_app (goodIn_app c_L_bar_r1 (goodIn_app c_L_bar_r2 (goodIn_app c_L_bar_r3 (goodIn_app c_L_bar_r4 (goodIn_app c_L_bar_r5 c_L_bar_r6))))) c_L_bar_X11) c_L_bar_X0) c_L_bar_X3) c_L_bar_X2) c_L_bar_X5) c_L_bar_X10) c_L_bar_X4) c_L_bar_X7) c_L_bar_X6) c_L_bar_X9) c_L_bar_x316)
set_option maxRecDepth 20000 in
theorem gL_law_L_bar : GoodIn wsL_law (va_wsS RL 141 yL_bar wsL_bar) := goodIn_app (goodIn_of _ (by decide +kernel)) ggL_law_L_bar
