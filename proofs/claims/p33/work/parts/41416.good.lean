set_option maxRecDepth 20000 in
theorem ggL_law_X11_stage : GoodIn wsL_law wsX11_stage := goodIn_r _ [785, 14, 347, 228, 229, 51, 230, 101, 95, 877, 878, 879, 880, 881, 882, 883, 884, 885, 886, 887, 888, 889, 890, 891, 892, 893, 910, 911, 912, 913, 914] (by decide +kernel) (by decide +kernel)
set_option maxRecDepth 20000 in
theorem gL_law_X11_stage : GoodIn wsL_law (wsV RL 103 RX11 yX11_stage wsX11_stage) := goodIn_app (goodIn_of _ (by decide +kernel)) ggL_law_X11_stage
set_option maxRecDepth 20000 in
theorem c_L_play_0 : GoodIn wsL_law [Cond.codeWith yL_play cL_play 3 (some .int) [(0, 5, 6, 15), (0, 5, 11, 17)]] := goodIn_r _ [606] (by decide +kernel) (by decide +kernel)
set_option maxRecDepth 20000 in
theorem c_L_play_r1 : GoodIn wsL_law wsL_play_r1 := goodIn_r _ [365, 379, 607, 608, 609, 2, 610, 14, 18, 370, 235, 236, 371, 372, 373, 374, 375, 384, 385, 386, 387, 388, 389, 390] (by decide +kernel) (by decide +kernel)
set_option maxRecDepth 20000 in
theorem c_L_play_r2 : GoodIn wsL_law wsL_play_r2 := goodIn_r _ [391, 17, 392, 393, 142, 394, 395, 396, 397, 398, 399, 400, 13, 401, 27, 163, 28, 29, 33, 37, 40, 44, 48, 52] (by decide +kernel) (by decide +kernel)
set_option maxRecDepth 20000 in
theorem c_L_play_r3 : GoodIn wsL_law wsL_play_r3 := goodIn_r _ [56, 60, 61, 402, 403, 404, 32, 405, 201, 69, 70, 71, 126, 127, 128, 129, 130, 131, 132, 133, 134, 135, 406, 407] (by decide +kernel) (by decide +kernel)
set_option maxRecDepth 20000 in
theorem c_L_play_r4 : GoodIn wsL_law wsL_play_r4 := goodIn_r _ [408, 36, 409, 168, 75, 410, 411, 412, 413, 414, 43, 415, 80, 416, 417, 418, 47, 419, 88, 90, 420, 421, 422, 51] (by decide +kernel) (by decide +kernel)
set_option maxRecDepth 20000 in
theorem c_L_play_r5 : GoodIn wsL_law wsL_play_r5 := goodIn_r _ [423, 101, 102, 424, 95, 96, 425, 426, 427, 55, 428, 109, 429, 430, 431, 59, 432, 433, 434, 118, 120, 435, 611, 612] (by decide +kernel) (by decide +kernel)
set_option maxRecDepth 20000 in
theorem c_L_play_r6 : GoodIn wsL_law wsL_play_r6 := goodIn_r _ [613, 614, 227, 228, 229, 230] (by decide +kernel) (by decide +kernel)
set_option maxRecDepth 20000 in
theorem c_L_play_X11 : GoodIn wsL_law wsX110 := goodIn_sub inlX11 (by decide +kernel)
set_option maxRecDepth 20000 in
theorem c_L_play_X0 : GoodIn wsL_law wsX00 := goodIn_sub inlX0 (by decide +kernel)
set_option maxRecDepth 20000 in
theorem c_L_play_X7 : GoodIn wsL_law wsX70 := goodIn_sub inlX7 (by decide +kernel)
set_option maxRecDepth 20000 in
theorem c_L_play_X5 : GoodIn wsL_law wsX50 := goodIn_sub inlX5 (by decide +kernel)
set_option maxRecDepth 20000 in
theorem c_L_play_X10 : GoodIn wsL_law wsX100 := goodIn_sub inlX10 (by decide +kernel)
set_option maxRecDepth 20000 in
theorem c_L_play_X2 : GoodIn wsL_law wsX20 := goodIn_sub inlX2 (by decide +kernel)
set_option maxRecDepth 20000 in
theorem c_L_play_X4 : GoodIn wsL_law wsX40 := goodIn_sub inlX4 (by decide +kernel)
set_option maxRecDepth 20000 in
theorem c_L_play_X3 : GoodIn wsL_law wsX30 := goodIn_sub inlX3 (by decide +kernel)
set_option maxRecDepth 20000 in
theorem c_L_play_X6 : GoodIn wsL_law wsX60 := goodIn_sub inlX6 (by decide +kernel)
set_option maxRecDepth 20000 in
theorem c_L_play_X9 : GoodIn wsL_law wsX90 := goodIn_sub inlX9 (by decide +kernel)
set_option maxRecDepth 20000 in
theorem c_L_play_x319 : GoodIn wsL_law ((vx_at0 RX11 319 "java/lang/IllegalArgumentException" ["java/lang/RuntimeException", "java/lang/Exception"]).filter goodWord) := goodIn_sub (fun _ h => List.mem_append_left _ (List.mem_append_left _ (List.mem_append_right _ h))) (by decide +kernel)
set_option maxRecDepth 20000 in
theorem c_L_play_x322 : GoodIn wsL_law ((vx_at0 RX11 322 "java/lang/IllegalStateException" ["java/lang/RuntimeException", "java/lang/Exception"]).filter goodWord) := goodIn_sub (fun _ h => List.mem_append_left _ (List.mem_append_right _ h)) (by decide +kernel)
theorem ggL_law_L_play : GoodIn wsL_law wsL_play := goodIn_app c_L_play_0 (goodIn_app (goodIn_app (goodIn_app (goodIn_app (goodIn_app (goodIn_app (goodIn_app (goodIn_app (goodIn_app (goodIn_app (goodIn_app (goodIn_app (goodIn_app c_L_play_r1 (goodIn_app c_L_play_r2 (goodIn_app c_L_play_r3 (goodIn_app c_L_play_r4 (goodIn_app c_L_play_r5 c_L_play_r6))))) c_L_play_X11) c_L_play_X0) c_L_play_X7) c_L_play_X5) c_L_play_X10) c_L_play_X2) c_L_play_X4) c_L_play_X3) c_L_play_X6) c_L_play_X9) c_L_play_x319) c_L_play_x322)
set_option maxRecDepth 20000 in
theorem gL_law_L_play : GoodIn wsL_law (va_wsS RL 153 yL_play wsL_play) := goodIn_app (goodIn_of _ (by decide +kernel)) ggL_law_L_play
