set_option maxRecDepth 20000 in
theorem c_L_flaw_0 : GoodIn wsL_law [Cond.codeWith yL_flaw cL_flaw 4 (some .int) [(0, 6, 7, 23)]] := goodIn_r _ [565] (by decide +kernel) (by decide +kernel)
set_option maxRecDepth 20000 in
theorem c_L_flaw_r1 : GoodIn wsL_law wsL_flaw_r1 := goodIn_r _ [443, 566, 567, 568, 2, 569, 14, 517, 518, 519, 520, 469, 470, 471, 472, 473, 174, 175, 36, 176, 168, 449, 450, 451] (by decide +kernel) (by decide +kernel)
set_option maxRecDepth 20000 in
theorem c_L_flaw_r2 : GoodIn wsL_law wsL_flaw_r2 := goodIn_r _ [452, 453, 500, 501, 502, 370, 235, 236, 304, 305, 306, 43, 307, 308, 309, 310, 311, 312, 313, 314, 315, 80, 316, 317] (by decide +kernel) (by decide +kernel)
set_option maxRecDepth 20000 in
theorem c_L_flaw_r3 : GoodIn wsL_law wsL_flaw_r3 := goodIn_r _ [318, 319, 320, 207, 208, 32, 209, 71, 197, 198, 199, 200, 201, 321, 322, 323, 324, 325, 203, 204, 205, 70, 326, 327] (by decide +kernel) (by decide +kernel)
set_option maxRecDepth 20000 in
theorem c_L_flaw_r4 : GoodIn wsL_law wsL_flaw_r4 := goodIn_r _ [328, 329, 330, 270, 130, 271, 331, 194, 195, 196, 69, 332, 333, 334, 335, 336, 337, 338, 339] (by decide +kernel) (by decide +kernel)
set_option maxRecDepth 20000 in
theorem c_L_flaw_X11 : GoodIn wsL_law wsX110 := goodIn_sub inlX11 (by decide +kernel)
set_option maxRecDepth 20000 in
theorem c_L_flaw_X0 : GoodIn wsL_law wsX00 := goodIn_sub inlX0 (by decide +kernel)
set_option maxRecDepth 20000 in
theorem c_L_flaw_X2 : GoodIn wsL_law wsX20 := goodIn_sub inlX2 (by decide +kernel)
set_option maxRecDepth 20000 in
theorem c_L_flaw_X4 : GoodIn wsL_law wsX40 := goodIn_sub inlX4 (by decide +kernel)
set_option maxRecDepth 20000 in
theorem c_L_flaw_X10 : GoodIn wsL_law wsX100 := goodIn_sub inlX10 (by decide +kernel)
set_option maxRecDepth 20000 in
theorem c_L_flaw_x316 : GoodIn wsL_law ((vx_at0 RX11 316 "java/lang/IndexOutOfBoundsException" ["java/lang/RuntimeException", "java/lang/Exception"]).filter goodWord) := goodIn_sub (fun _ h => List.mem_append_right _ h) (by decide +kernel)
theorem ggL_law_L_flaw : GoodIn wsL_law wsL_flaw := goodIn_app c_L_flaw_0 (goodIn_app (goodIn_app (goodIn_app (goodIn_app (goodIn_app (goodIn_app (goodIn_app c_L_flaw_r1 (goodIn_app c_L_flaw_r2 (goodIn_app c_L_flaw_r3 c_L_flaw_r4))) c_L_flaw_X11) c_L_flaw_X0) c_L_flaw_X2) c_L_flaw_X4) c_L_flaw_X10) c_L_flaw_x316)
set_option maxRecDepth 20000 in
theorem gL_law_L_flaw : GoodIn wsL_law (va_wsS RL 120 yL_flaw wsL_flaw) := goodIn_app (goodIn_of _ (by decide +kernel)) ggL_law_L_flaw
