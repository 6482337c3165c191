set_option maxRecDepth 20000 in
theorem c_L_setProgram_0 : GoodIn wsL_law [Cond.codeWith yL_setProgram cL_setProgram 4 (some .int) [(0, 6, 7, 23), (0, 6, 12, 15)]] := goodIn_r _ [512] (by decide +kernel) (by decide +kernel)
set_option maxRecDepth 20000 in
theorem c_L_setProgram_r1 : GoodIn wsL_law wsL_setProgram_r1 := goodIn_r _ [443, 365, 513, 514, 515, 2, 516, 22, 14, 18, 517, 518, 519, 520, 469, 470, 471, 472, 473, 174, 175, 36, 176, 168] (by decide +kernel) (by decide +kernel)
set_option maxRecDepth 20000 in
theorem c_L_setProgram_r2 : GoodIn wsL_law wsL_setProgram_r2 := goodIn_r _ [449, 450, 451, 452, 453, 500, 501, 502, 370, 235, 236, 521, 522, 523, 21, 524, 525, 148, 149, 526, 527, 528, 529, 530] (by decide +kernel) (by decide +kernel)
set_option maxRecDepth 20000 in
theorem c_L_setProgram_r3 : GoodIn wsL_law wsL_setProgram_r3 := goodIn_r _ [147, 531, 532, 533, 534, 535, 536, 537, 538, 371, 372, 373, 374, 375, 389, 390, 391, 17, 392, 393, 142, 394, 395, 396] (by decide +kernel) (by decide +kernel)
set_option maxRecDepth 20000 in
theorem c_L_setProgram_r4 : GoodIn wsL_law wsL_setProgram_r4 := goodIn_r _ [397, 398, 399, 400, 13, 401, 27, 163, 28, 29, 33, 37, 40, 44, 48, 52, 56, 60, 61, 402, 403, 404, 32, 405] (by decide +kernel) (by decide +kernel)
set_option maxRecDepth 20000 in
theorem c_L_setProgram_r5 : GoodIn wsL_law wsL_setProgram_r5 := goodIn_r _ [201, 69, 70, 71, 126, 127, 128, 129, 130, 131, 132, 133, 134, 135, 406, 407, 408, 409, 75, 410, 411, 412, 413, 414] (by decide +kernel) (by decide +kernel)
set_option maxRecDepth 20000 in
theorem c_L_setProgram_r6 : GoodIn wsL_law wsL_setProgram_r6 := goodIn_r _ [43, 415, 80, 416, 417, 418, 47, 419, 88, 90, 420, 421, 422, 51, 423, 101, 102, 424, 95, 96, 425, 426, 427, 55] (by decide +kernel) (by decide +kernel)
set_option maxRecDepth 20000 in
theorem c_L_setProgram_r7 : GoodIn wsL_law wsL_setProgram_r7 := goodIn_r _ [428, 109, 429, 430, 431, 59, 432, 433, 434, 118, 120, 435, 539, 540, 541, 542, 543, 544, 545, 546, 547] (by decide +kernel) (by decide +kernel)
set_option maxRecDepth 20000 in
theorem c_L_setProgram_X11 : GoodIn wsL_law wsX110 := goodIn_sub inlX11 (by decide +kernel)
set_option maxRecDepth 20000 in
theorem c_L_setProgram_X0 : GoodIn wsL_law wsX00 := goodIn_sub inlX0 (by decide +kernel)
set_option maxRecDepth 20000 in
theorem c_L_setProgram_X10 : GoodIn wsL_law wsX100 := goodIn_sub inlX10 (by decide +kernel)
set_option maxRecDepth 20000 in
theorem c_L_setProgram_X8 : GoodIn wsL_law wsX80 := goodIn_sub inlX8 (by decide +kernel)
set_option maxRecDepth 20000 in
theorem c_L_setProgram_X2 : GoodIn wsL_law wsX20 := goodIn_sub inlX2 (by decide +kernel)
set_option maxRecDepth 20000 in
theorem c_L_setProgram_X5 : GoodIn wsL_law wsX50 := goodIn_sub inlX5 (by decide +kernel)
set_option maxRecDepth 20000 in
theorem c_L_setProgram_X4 : GoodIn wsL_law wsX40 := goodIn_sub inlX4 (by decide +kernel)
set_option maxRecDepth 20000 in
theorem c_L_setProgram_X3 : GoodIn wsL_law wsX30 := goodIn_sub inlX3 (by decide +kernel)
set_option maxRecDepth 20000 in
theorem c_L_setProgram_X7 : GoodIn wsL_law wsX70 := goodIn_sub inlX7 (by decide +kernel)
set_option maxRecDepth 20000 in
theorem c_L_setProgram_X6 : GoodIn wsL_law wsX60 := goodIn_sub inlX6 (by decide +kernel)
set_option maxRecDepth 20000 in
theorem c_L_setProgram_X9 : GoodIn wsL_law wsX90 := goodIn_sub inlX9 (by decide +kernel)
set_option maxRecDepth 20000 in
theorem c_L_setProgram_x316 : GoodIn wsL_law ((vx_at0 RX11 316 "java/lang/IndexOutOfBoundsException" ["java/lang/RuntimeException", "java/lang/Exception"]).filter goodWord) := goodIn_sub (fun _ h => List.mem_append_right _ h) (by decide +kernel)
set_option maxRecDepth 20000 in
theorem c_L_setProgram_x319 : GoodIn wsL_law ((vx_at0 RX11 319 "java/lang/IllegalArgumentException" ["java/lang/RuntimeException", "java/lang/Exception"]).filter goodWord) := goodIn_sub (fun _ h => List.mem_append_left _ (List.mem_append_left _ (List.mem_append_right _ h))) (by decide +kernel)
theorem ggL_law_L_setProgram : GoodIn wsL_law wsL_setProgram := goodIn_app c_L_setProgram_0 (goodIn_app (goodIn_app (goodIn_app (goodIn_app (goodIn_app (goodIn_app (goodIn_app (goodIn_app (goodIn_app (goodIn_app (goodIn_app (goodIn_app (goodIn_app (goodIn_app c_L_setProgram_r1 (goodIn_app c_L_setProgram_r2 (goodIn_app c_L_setProgram_r3 (goodIn_app c_L_setProgram_r4 (goodIn_app c_L_setProgram_r5 (goodIn_app c_L_setProgram_r6 c_L_setProgram_r7)))))) c_L_setProgram_X11) c_L_setProgram_X0) c_L_setProgram_X10) c_L_setProgram_X8) c_L_setProgram_X2) c_L_setProgram_X5) c_L_setProgram_X4) c_L_setProgram_X3) c_L_setProgram_X7) c_L_setProgram_X6) c_L_setProgram_X9) c_L_setProgram_x316) c_L_setProgram_x319)
set_option maxRecDepth 20000 in
theorem gL_law_L_setProgram : GoodIn wsL_law (va_wsS RL 147 yL_setProgram wsL_setProgram) := goodIn_app (goodIn_of _ (by decide +kernel)) ggL_law_L_setProgram
