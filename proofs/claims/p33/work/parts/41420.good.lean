set_option maxRecDepth 20000 in
theorem c_L_abstain_0 : GoodIn wsL_law [Cond.codeWith yL_abstain cL_abstain 4 (some .int) [(0, 6, 7, 23), (0, 6, 12, 17)]] := goodIn_r _ [638] (by decide +kernel) (by decide +kernel)
set_option maxRecDepth 20000 in
theorem c_L_abstain_r1 : GoodIn wsL_law wsL_abstain_r1 := goodIn_r _ [443, 379, 639, 640, 641, 2, 642, 461, 462, 463, 464, 14, 465, 466, 467, 47, 468, 88, 449, 450, 451, 452, 453, 469] (by decide +kernel) (by decide +kernel)
set_option maxRecDepth 20000 in
theorem c_L_abstain_r2 : GoodIn wsL_law wsL_abstain_r2 := goodIn_r _ [470, 471, 472, 473, 174, 175, 36, 176, 168, 622, 623, 624, 625, 18, 626, 627, 628, 13, 629, 27, 60, 52, 291, 292] (by decide +kernel) (by decide +kernel)
set_option maxRecDepth 20000 in
theorem c_L_abstain_r3 : GoodIn wsL_law wsL_abstain_r3 := goodIn_r _ [293, 59, 294, 118, 235, 236, 282, 283, 284, 51, 285, 286, 232, 233, 234, 96, 345, 258, 259, 260, 90, 384, 385, 386] (by decide +kernel) (by decide +kernel)
set_option maxRecDepth 20000 in
theorem c_L_abstain_r4 : GoodIn wsL_law wsL_abstain_r4 := goodIn_r _ [387, 388, 389, 390, 391, 17, 392, 393, 142, 394, 395, 396, 397, 398, 399, 400, 401, 163, 28, 29, 33, 37, 40, 44] (by decide +kernel) (by decide +kernel)
set_option maxRecDepth 20000 in
theorem c_L_abstain_r5 : GoodIn wsL_law wsL_abstain_r5 := goodIn_r _ [48, 56, 61, 402, 403, 404, 32, 405, 201, 69, 70, 71, 126, 127, 128, 129, 130, 131, 132, 133, 134, 135, 406, 407] (by decide +kernel) (by decide +kernel)
set_option maxRecDepth 20000 in
theorem c_L_abstain_r6 : GoodIn wsL_law wsL_abstain_r6 := goodIn_r _ [408, 409, 75, 410, 411, 412, 413, 414, 43, 415, 80, 416, 417, 418, 419, 420, 421, 422, 423, 101, 102, 424, 95, 425] (by decide +kernel) (by decide +kernel)
set_option maxRecDepth 20000 in
theorem c_L_abstain_r7 : GoodIn wsL_law wsL_abstain_r7 := goodIn_r _ [426, 427, 55, 428, 109, 429, 430, 431, 432, 433, 434, 120, 435, 630, 242, 243, 244, 631, 632, 633, 634, 635, 238, 239] (by decide +kernel) (by decide +kernel)
set_option maxRecDepth 20000 in
theorem c_L_abstain_r8 : GoodIn wsL_law wsL_abstain_r8 := goodIn_r _ [240, 241, 245, 246, 247, 248, 249, 250, 251, 252, 253, 254, 255, 256, 257] (by decide +kernel) (by decide +kernel)
set_option maxRecDepth 20000 in
theorem c_L_abstain_X11 : GoodIn wsL_law wsX110 := goodIn_sub inlX11 (by decide +kernel)
set_option maxRecDepth 20000 in
theorem c_L_abstain_X0 : GoodIn wsL_law wsX00 := goodIn_sub inlX0 (by decide +kernel)
set_option maxRecDepth 20000 in
theorem c_L_abstain_X3 : GoodIn wsL_law wsX30 := goodIn_sub inlX3 (by decide +kernel)
set_option maxRecDepth 20000 in
theorem c_L_abstain_X2 : GoodIn wsL_law wsX20 := goodIn_sub inlX2 (by decide +kernel)
set_option maxRecDepth 20000 in
theorem c_L_abstain_X9 : GoodIn wsL_law wsX90 := goodIn_sub inlX9 (by decide +kernel)
set_option maxRecDepth 20000 in
theorem c_L_abstain_X7 : GoodIn wsL_law wsX70 := goodIn_sub inlX7 (by decide +kernel)
set_option maxRecDepth 20000 in
theorem c_L_abstain_X5 : GoodIn wsL_law wsX50 := goodIn_sub inlX5 (by decide +kernel)
set_option maxRecDepth 20000 in
theorem c_L_abstain_X10 : GoodIn wsL_law wsX100 := goodIn_sub inlX10 (by decide +kernel)
set_option maxRecDepth 20000 in
theorem c_L_abstain_X4 : GoodIn wsL_law wsX40 := goodIn_sub inlX4 (by decide +kernel)
set_option maxRecDepth 20000 in
theorem c_L_abstain_X6 : GoodIn wsL_law wsX60 := goodIn_sub inlX6 (by decide +kernel)
set_option maxRecDepth 20000 in
theorem c_L_abstain_x316 : GoodIn wsL_law ((vx_at0 RX11 316 "java/lang/IndexOutOfBoundsException" ["java/lang/RuntimeException", "java/lang/Exception"]).filter goodWord) := goodIn_sub (fun _ h => List.mem_append_right _ h) (by decide +kernel)
set_option maxRecDepth 20000 in
theorem c_L_abstain_x322 : GoodIn wsL_law ((vx_at0 RX11 322 "java/lang/IllegalStateException" ["java/lang/RuntimeException", "java/lang/Exception"]).filter goodWord) := goodIn_sub (fun _ h => List.mem_append_left _ (List.mem_append_right _ h)) (by decide +kernel)
theorem ggL_law_L_abstain : GoodIn wsL_law wsL_abstain := goodIn_app c_L_abstain_0 (goodIn_app (goodIn_app (goodIn_app (goodIn_app (goodIn_app (goodIn_app (goodIn_app (goodIn_app (goodIn_app (goodIn_app (goodIn_app (goodIn_app (goodIn_app c_L_abstain_r1 (goodIn_app c_L_abstain_r2 (goodIn_app c_L_abstain_r3 (goodIn_app c_L_abstain_r4 (goodIn_app c_L_abstain_r5 (goodIn_app c_L_abstain_r6 (goodIn_app c_L_abstain_r7 c_L_abstain_r8))))))) c_L_abstain_X11) c_L_abstain_X0) c_L_abstain_X3) c_L_abstain_X2) c_L_abstain_X9) c_L_abstain_X7) c_L_abstain_X5) c_L_abstain_X10) c_L_abstain_X4) c_L_abstain_X6) c_L_abstain_x316) c_L_abstain_x322)
set_option maxRecDepth 20000 in
theorem gL_law_L_abstain : GoodIn wsL_law (va_wsS RL 155 yL_abstain wsL_abstain) := goodIn_app (goodIn_of _ (by decide +kernel)) ggL_law_L_abstain
