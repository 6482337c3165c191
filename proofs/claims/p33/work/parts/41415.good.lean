set_option maxRecDepth 20000 in
theorem c_L_begin_0 : GoodIn wsL_law [Cond.codeWith yL_begin cL_begin 3 (some .int) [(0, 5, 6, 15), (0, 5, 11, 17)]] := goodIn_r _ [572] (by decide +kernel) (by decide +kernel)
set_option maxRecDepth 20000 in
theorem c_L_begin_r1 : GoodIn wsL_law wsL_begin_r1 := goodIn_r _ [365, 379, 573, 574, 575, 2, 576, 14, 18, 371, 372, 373, 374, 375, 384, 385, 386, 387, 388, 389, 390, 391, 17, 392] (by decide +kernel) (by decide +kernel)
set_option maxRecDepth 20000 in
theorem c_L_begin_r2 : GoodIn wsL_law wsL_begin_r2 := goodIn_r _ [393, 142, 394, 395, 396, 397, 398, 399, 400, 13, 401, 27, 163, 28, 29, 33, 37, 40, 44, 48, 52, 56, 60, 61] (by decide +kernel) (by decide +kernel)
set_option maxRecDepth 20000 in
theorem c_L_begin_r3 : GoodIn wsL_law wsL_begin_r3 := goodIn_r _ [402, 403, 404, 32, 405, 201, 69, 70, 71, 126, 127, 128, 129, 130, 131, 132, 133, 134, 135, 406, 407, 408, 36, 409] (by decide +kernel) (by decide +kernel)
set_option maxRecDepth 20000 in
theorem c_L_begin_r4 : GoodIn wsL_law wsL_begin_r4 := goodIn_r _ [168, 75, 410, 411, 412, 413, 414, 43, 415, 80, 416, 417, 418, 47, 419, 88, 90, 420, 421, 422, 51, 423, 101, 102] (by decide +kernel) (by decide +kernel)
set_option maxRecDepth 20000 in
theorem c_L_begin_r5 : GoodIn wsL_law wsL_begin_r5 := goodIn_r _ [424, 95, 96, 425, 426, 427, 55, 428, 109, 429, 430, 431, 59, 432, 433, 434, 118, 120, 435, 577, 578, 579, 580, 581] (by decide +kernel) (by decide +kernel)
set_option maxRecDepth 20000 in
theorem c_L_begin_r6 : GoodIn wsL_law wsL_begin_r6 := goodIn_r _ [98, 99, 100, 103, 82, 83, 84, 582, 111, 112, 113, 114, 222, 170, 171, 172, 173, 174, 175, 176, 583, 305, 306, 307] (by decide +kernel) (by decide +kernel)
set_option maxRecDepth 20000 in
theorem c_L_begin_r7 : GoodIn wsL_law wsL_begin_r7 := goodIn_r _ [308, 309, 310, 311, 312, 313, 314, 315, 316, 317, 318, 319, 320, 207, 208, 209, 197, 198, 199, 200, 321, 322, 323, 324] (by decide +kernel) (by decide +kernel)
set_option maxRecDepth 20000 in
theorem c_L_begin_r8 : GoodIn wsL_law wsL_begin_r8 := goodIn_r _ [325, 203, 204, 205, 326, 327, 328, 329, 330, 270, 271, 331, 194, 195, 196, 332, 333, 334, 335, 336, 337, 338, 339, 584] (by decide +kernel) (by decide +kernel)
set_option maxRecDepth 20000 in
theorem c_L_begin_r9 : GoodIn wsL_law wsL_begin_r9 := goodIn_r _ [585, 586, 587, 588, 589, 590, 591, 592, 593, 594, 595, 596, 597, 598, 599, 600, 601, 602, 603, 235, 236] (by decide +kernel) (by decide +kernel)
set_option maxRecDepth 20000 in
theorem c_L_begin_X11 : GoodIn wsL_law wsX110 := goodIn_sub inlX11 (by decide +kernel)
set_option maxRecDepth 20000 in
theorem c_L_begin_X0 : GoodIn wsL_law wsX00 := goodIn_sub inlX0 (by decide +kernel)
set_option maxRecDepth 20000 in
theorem c_L_begin_X7 : GoodIn wsL_law wsX70 := goodIn_sub inlX7 (by decide +kernel)
set_option maxRecDepth 20000 in
theorem c_L_begin_X5 : GoodIn wsL_law wsX50 := goodIn_sub inlX5 (by decide +kernel)
set_option maxRecDepth 20000 in
theorem c_L_begin_X10 : GoodIn wsL_law wsX100 := goodIn_sub inlX10 (by decide +kernel)
set_option maxRecDepth 20000 in
theorem c_L_begin_X2 : GoodIn wsL_law wsX20 := goodIn_sub inlX2 (by decide +kernel)
set_option maxRecDepth 20000 in
theorem c_L_begin_X4 : GoodIn wsL_law wsX40 := goodIn_sub inlX4 (by decide +kernel)
set_option maxRecDepth 20000 in
theorem c_L_begin_X3 : GoodIn wsL_law wsX30 := goodIn_sub inlX3 (by decide +kernel)
set_option maxRecDepth 20000 in
theorem c_L_begin_X6 : GoodIn wsL_law wsX60 := goodIn_sub inlX6 (by decide +kernel)
set_option maxRecDepth 20000 in
theorem c_L_begin_X9 : GoodIn wsL_law wsX90 := goodIn_sub inlX9 (by decide +kernel)
set_option maxRecDepth 20000 in
theorem c_L_begin_x319 : GoodIn wsL_law ((vx_at0 RX11 319 "java/lang/IllegalArgumentException" ["java/lang/RuntimeException", "java/lang/Exception"]).filter goodWord) := goodIn_sub (fun _ h => List.mem_append_left _ (List.mem_append_left _ (List.mem_append_right _ h))) (by decide +kernel)
set_option maxRecDepth 20000 in
theorem c_L_begin_x322 : GoodIn wsL_law ((vx_at0 RX11 322 "java/lang/IllegalStateException" ["java/lang/RuntimeException", "java/lang/Exception"]).filter goodWord) := goodIn_sub (fun _ h => List.mem_append_left _ (List.mem_append_right _ h)) (by decide +kernel)
theorem ggL_law_L_begin : GoodIn wsL_law wsL_begin := goodIn_app c_L_begin_0 (goodIn_app (goodIn_app (goodIn_app (goodIn_app (goodIn_app (goodIn_app (goodIn_app (goodIn_app (goodIn_app (goodIn_app (goodIn_app (goodIn_app (goodIn_app c_L_begin_r1 (goodIn_app c_L_begin_r2 (goodIn_app c_L_begin_r3 (goodIn_app c_L_begin_r4 (goodIn_app c_L_begin_r5 (goodIn_app c_L_begin_r6 (goodIn_app c_L_begin_r7 (goodIn_app c_L_begin_r8 c_L_begin_r9)))))))) c_L_begin_X11) c_L_begin_X0) c_L_begin_X7) c_L_begin_X5) c_L_begin_X10) c_L_begin_X2) c_L_begin_X4) c_L_begin_X3) c_L_begin_X6) c_L_begin_X9) c_L_begin_x319) c_L_begin_x322)
set_option maxRecDepth 20000 in
theorem gL_law_L_begin : GoodIn wsL_law (va_wsS RL 151 yL_begin wsL_begin) := goodIn_app (goodIn_of _ (by decide +kernel)) ggL_law_L_begin
