set_option maxRecDepth 20000 in
theorem c_L_withdraw_0 : GoodIn wsL_law [Cond.codeWith yL_withdraw cL_withdraw 3 (some .int) [(0, 5, 6, 23), (0, 5, 11, 17)]] := goodIn_r _ [645] (by decide +kernel) (by decide +kernel)
set_option maxRecDepth 20000 in
theorem c_L_withdraw_r1 : GoodIn wsL_law wsL_withdraw_r1 := goodIn_r _ [443, 379, 646, 647, 648, 2, 649, 14, 18, 469, 470, 471, 472, 473, 174, 175, 36, 176, 168, 449, 450, 451, 452, 453] (by decide +kernel) (by decide +kernel)
set_option maxRecDepth 20000 in
theorem c_L_withdraw_r2 : GoodIn wsL_law wsL_withdraw_r2 := goodIn_r _ [650, 170, 171, 172, 75, 173, 384, 385, 386, 387, 388, 651, 283, 284, 51, 285, 286, 232, 233, 234, 96, 235, 236, 389] (by decide +kernel) (by decide +kernel)
set_option maxRecDepth 20000 in
theorem c_L_withdraw_r3 : GoodIn wsL_law wsL_withdraw_r3 := goodIn_r _ [390, 391, 17, 392, 393, 142, 394, 395, 396, 397, 398, 399, 400, 13, 401, 27, 163, 28, 29, 33, 37, 40, 44, 48] (by decide +kernel) (by decide +kernel)
set_option maxRecDepth 20000 in
theorem c_L_withdraw_r4 : GoodIn wsL_law wsL_withdraw_r4 := goodIn_r _ [52, 56, 60, 61, 402, 403, 404, 32, 405, 201, 69, 70, 71, 126, 127, 128, 129, 130, 131, 132, 133, 134, 135, 406] (by decide +kernel) (by decide +kernel)
set_option maxRecDepth 20000 in
theorem c_L_withdraw_r5 : GoodIn wsL_law wsL_withdraw_r5 := goodIn_r _ [407, 408, 409, 410, 411, 412, 413, 414, 43, 415, 80, 416, 417, 418, 47, 419, 88, 90, 420, 421, 422, 423, 101, 102] (by decide +kernel) (by decide +kernel)
set_option maxRecDepth 20000 in
theorem c_L_withdraw_r6 : GoodIn wsL_law wsL_withdraw_r6 := goodIn_r _ [424, 95, 425, 426, 427, 55, 428, 109, 429, 430, 431, 59, 432, 433, 434, 118, 120, 435, 652, 653, 654, 655, 588, 589] (by decide +kernel) (by decide +kernel)
set_option maxRecDepth 20000 in
theorem c_L_withdraw_r7 : GoodIn wsL_law wsL_withdraw_r7 := goodIn_r _ [590, 591, 656, 657, 658, 659, 660, 224, 225, 226, 227, 228, 229, 230, 600, 601, 602, 603, 661, 165, 166, 167, 169] (by decide +kernel) (by decide +kernel)
set_option maxRecDepth 20000 in
theorem c_L_withdraw_X11 : GoodIn wsL_law wsX110 := goodIn_sub inlX11 (by decide +kernel)
set_option maxRecDepth 20000 in
theorem c_L_withdraw_X0 : GoodIn wsL_law wsX00 := goodIn_sub inlX0 (by decide +kernel)
set_option maxRecDepth 20000 in
theorem c_L_withdraw_X2 : GoodIn wsL_law wsX20 := goodIn_sub inlX2 (by decide +kernel)
set_option maxRecDepth 20000 in
theorem c_L_withdraw_X7 : GoodIn wsL_law wsX70 := goodIn_sub inlX7 (by decide +kernel)
set_option maxRecDepth 20000 in
theorem c_L_withdraw_X5 : GoodIn wsL_law wsX50 := goodIn_sub inlX5 (by decide +kernel)
set_option maxRecDepth 20000 in
theorem c_L_withdraw_X10 : GoodIn wsL_law wsX100 := goodIn_sub inlX10 (by decide +kernel)
set_option maxRecDepth 20000 in
theorem c_L_withdraw_X4 : GoodIn wsL_law wsX40 := goodIn_sub inlX4 (by decide +kernel)
set_option maxRecDepth 20000 in
theorem c_L_withdraw_X3 : GoodIn wsL_law wsX30 := goodIn_sub inlX3 (by decide +kernel)
set_option maxRecDepth 20000 in
theorem c_L_withdraw_X6 : GoodIn wsL_law wsX60 := goodIn_sub inlX6 (by decide +kernel)
set_option maxRecDepth 20000 in
theorem c_L_withdraw_X9 : GoodIn wsL_law wsX90 := goodIn_sub inlX9 (by decide +kernel)
set_option maxRecDepth 20000 in
theorem c_L_withdraw_x316 : GoodIn wsL_law ((vx_at0 RX11 316 "java/lang/IndexOutOfBoundsException" ["java/lang/RuntimeException", "java/lang/Exception"]).filter goodWord) := goodIn_sub (fun _ h => List.mem_append_right _ h) (by decide +kernel)
set_option maxRecDepth 20000 in
theorem c_L_withdraw_x322 : GoodIn wsL_law ((vx_at0 RX11 322 "java/lang/IllegalStateException" ["java/lang/RuntimeException", "java/lang/Exception"]).filter goodWord) := goodIn_sub (fun _ h => List.mem_append_left _ (List.mem_append_right _ h)) (by decide +kernel)
theorem ggL_law_L_withdraw : GoodIn wsL_law wsL_withdraw := goodIn_app c_L_withdraw_0 (goodIn_app (goodIn_app (goodIn_app (goodIn_app (goodIn_app (goodIn_app (goodIn_app (goodIn_app (goodIn_app (goodIn_app (goodIn_app (goodIn_app (goodIn_app c_L_withdraw_r1 (goodIn_app c_L_withdraw_r2 (goodIn_app c_L_withdraw_r3 (goodIn_app c_L_withdraw_r4 (goodIn_app c_L_withdraw_r5 (goodIn_app c_L_withdraw_r6 c_L_withdraw_r7)))))) c_L_withdraw_X11) c_L_withdraw_X0) c_L_withdraw_X2) c_L_withdraw_X7) c_L_withdraw_X5) c_L_withdraw_X10) c_L_withdraw_X4) c_L_withdraw_X3) c_L_withdraw_X6) c_L_withdraw_X9) c_L_withdraw_x316) c_L_withdraw_x322)
set_option maxRecDepth 20000 in
theorem gL_law_L_withdraw : GoodIn wsL_law (va_wsS RL 157 yL_withdraw wsL_withdraw) := goodIn_app (goodIn_of _ (by decide +kernel)) ggL_law_L_withdraw
