set_option maxRecDepth 20000 in
theorem c_L_setRule_0 : GoodIn wsL_law [Cond.codeWith yL_setRule cL_setRule 5 (some .int) [(0, 7, 8, 23), (0, 7, 14, 15), (0, 7, 20, 17)]] := goodIn_r _ [493] (by decide +kernel) (by decide +kernel)
set_option maxRecDepth 20000 in
theorem c_L_setRule_r1 : GoodIn wsL_law wsL_setRule_r1 := goodIn_r _ [443, 365, 379, 494, 495, 496, 2, 497, 498, 499, 14, 18, 500, 501, 502, 370, 235, 236, 449, 450, 451, 452, 453, 371] (by decide +kernel) (by decide +kernel)
set_option maxRecDepth 20000 in
theorem c_L_setRule_r2 : GoodIn wsL_law wsL_setRule_r2 := goodIn_r _ [372, 373, 374, 375, 384, 385, 386, 387, 388, 389, 390, 391, 17, 392, 393, 142, 394, 395, 396, 397, 398, 399, 400, 13] (by decide +kernel) (by decide +kernel)
set_option maxRecDepth 20000 in
theorem c_L_setRule_r3 : GoodIn wsL_law wsL_setRule_r3 := goodIn_r _ [401, 27, 163, 28, 29, 33, 37, 40, 44, 48, 52, 56, 60, 61, 402, 403, 404, 32, 405, 201, 69, 70, 71, 126] (by decide +kernel) (by decide +kernel)
set_option maxRecDepth 20000 in
theorem c_L_setRule_r4 : GoodIn wsL_law wsL_setRule_r4 := goodIn_r _ [127, 128, 129, 130, 131, 132, 133, 134, 135, 406, 407, 408, 36, 409, 168, 75, 410, 411, 412, 413, 414, 43, 415, 80] (by decide +kernel) (by decide +kernel)
set_option maxRecDepth 20000 in
theorem c_L_setRule_r5 : GoodIn wsL_law wsL_setRule_r5 := goodIn_r _ [416, 417, 418, 47, 419, 88, 90, 420, 421, 422, 51, 423, 101, 102, 424, 95, 96, 425, 426, 427, 55, 428, 109, 429] (by decide +kernel) (by decide +kernel)
set_option maxRecDepth 20000 in
theorem c_L_setRule_r6 : GoodIn wsL_law wsL_setRule_r6 := goodIn_r _ [430, 431, 59, 432, 433, 434, 118, 120, 435] (by decide +kernel) (by decide +kernel)
set_option maxRecDepth 20000 in
theorem c_L_setRule_X11 : GoodIn wsL_law wsX110 := goodIn_sub inlX11 (by decide +kernel)
set_option maxRecDepth 20000 in
theorem c_L_setRule_X0 : GoodIn wsL_law wsX00 := goodIn_sub inlX0 (by decide +kernel)
set_option maxRecDepth 20000 in
theorem c_L_setRule_X5 : GoodIn wsL_law wsX50 := goodIn_sub inlX5 (by decide +kernel)
set_option maxRecDepth 20000 in
theorem c_L_setRule_X10 : GoodIn wsL_law wsX100 := goodIn_sub inlX10 (by decide +kernel)
set_option maxRecDepth 20000 in
theorem c_L_setRule_X2 : GoodIn wsL_law wsX20 := goodIn_sub inlX2 (by decide +kernel)
set_option maxRecDepth 20000 in
theorem c_L_setRule_X4 : GoodIn wsL_law wsX40 := goodIn_sub inlX4 (by decide +kernel)
set_option maxRecDepth 20000 in
theorem c_L_setRule_X3 : GoodIn wsL_law wsX30 := goodIn_sub inlX3 (by decide +kernel)
set_option maxRecDepth 20000 in
theorem c_L_setRule_X7 : GoodIn wsL_law wsX70 := goodIn_sub inlX7 (by decide +kernel)
set_option maxRecDepth 20000 in
theorem c_L_setRule_X6 : GoodIn wsL_law wsX60 := goodIn_sub inlX6 (by decide +kernel)
set_option maxRecDepth 20000 in
theorem c_L_setRule_X9 : GoodIn wsL_law wsX90 := goodIn_sub inlX9 (by decide +kernel)
set_option maxRecDepth 20000 in
theorem c_L_setRule_x316 : GoodIn wsL_law ((vx_at0 RX11 316 "java/lang/IndexOutOfBoundsException" ["java/lang/RuntimeException", "java/lang/Exception"]).filter goodWord) := goodIn_sub (fun _ h => List.mem_append_right _ h) (by decide +kernel)
set_option maxRecDepth 20000 in
theorem c_L_setRule_x319 : GoodIn wsL_law ((vx_at0 RX11 319 "java/lang/IllegalArgumentException" ["java/lang/RuntimeException", "java/lang/Exception"]).filter goodWord) := goodIn_sub (fun _ h => List.mem_append_left _ (List.mem_append_left _ (List.mem_append_right _ h))) (by decide +kernel)
set_option maxRecDepth 20000 in
theorem c_L_setRule_x322 : GoodIn wsL_law ((vx_at0 RX11 322 "java/lang/IllegalStateException" ["java/lang/RuntimeException", "java/lang/Exception"]).filter goodWord) := goodIn_sub (fun _ h => List.mem_append_left _ (List.mem_append_right _ h)) (by decide +kernel)
theorem ggL_law_L_setRule : GoodIn wsL_law wsL_setRule := goodIn_app c_L_setRule_0 (goodIn_app (goodIn_app (goodIn_app (goodIn_app (goodIn_app (goodIn_app (goodIn_app (goodIn_app (goodIn_app (goodIn_app (goodIn_app (goodIn_app (goodIn_app (goodIn_app c_L_setRule_r1 (goodIn_app c_L_setRule_r2 (goodIn_app c_L_setRule_r3 (goodIn_app c_L_setRule_r4 (goodIn_app c_L_setRule_r5 c_L_setRule_r6))))) c_L_setRule_X11) c_L_setRule_X0) c_L_setRule_X5) c_L_setRule_X10) c_L_setRule_X2) c_L_setRule_X4) c_L_setRule_X3) c_L_setRule_X7) c_L_setRule_X6) c_L_setRule_X9) c_L_setRule_x316) c_L_setRule_x319) c_L_setRule_x322)
set_option maxRecDepth 20000 in
theorem gL_law_L_setRule : GoodIn wsL_law (va_wsS RL 145 yL_setRule wsL_setRule) := goodIn_app (goodIn_of _ (by decide +kernel)) ggL_law_L_setRule
