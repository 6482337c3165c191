set_option maxRecDepth 20000 in
theorem c_L_program_0 : GoodIn wsL_law [Cond.codeWith yL_program cL_program 5 (some .int) [(0, 7, 8, 23)]] := goodIn_r _ [558] (by decide +kernel) (by decide +kernel)
set_option maxRecDepth 20000 in
theorem c_L_program_r1 : GoodIn wsL_law wsL_program_r1 := goodIn_r _ [443, 559, 560, 561, 2, 562, 14, 517, 518, 519, 520, 469, 470, 471, 472, 473, 174, 175, 36, 176, 168, 449, 450, 451] (by decide +kernel) (by decide +kernel)
set_option maxRecDepth 20000 in
theorem c_L_program_r2 : GoodIn wsL_law wsL_program_r2 := goodIn_r _ [452, 453, 500, 501, 502, 370, 235, 236, 340, 313, 314, 43, 315, 80] (by decide +kernel) (by decide +kernel)
set_option maxRecDepth 20000 in
theorem c_L_program_X11 : GoodIn wsL_law wsX110 := goodIn_sub inlX11 (by decide +kernel)
set_option maxRecDepth 20000 in
theorem c_L_program_X0 : GoodIn wsL_law wsX00 := goodIn_sub inlX0 (by decide +kernel)
set_option maxRecDepth 20000 in
theorem c_L_program_X2 : GoodIn wsL_law wsX20 := goodIn_sub inlX2 (by decide +kernel)
set_option maxRecDepth 20000 in
theorem c_L_program_X4 : GoodIn wsL_law wsX40 := goodIn_sub inlX4 (by decide +kernel)
set_option maxRecDepth 20000 in
theorem c_L_program_x316 : GoodIn wsL_law ((vx_at0 RX11 316 "java/lang/IndexOutOfBoundsException" ["java/lang/RuntimeException", "java/lang/Exception"]).filter goodWord) := goodIn_sub (fun _ h => List.mem_append_right _ h) (by decide +kernel)
theorem ggL_law_L_program : GoodIn wsL_law wsL_program := goodIn_app c_L_program_0 (goodIn_app (goodIn_app (goodIn_app (goodIn_app (goodIn_app (goodIn_app c_L_program_r1 c_L_program_r2) c_L_program_X11) c_L_program_X0) c_L_program_X2) c_L_program_X4) c_L_program_x316)
set_option maxRecDepth 20000 in
theorem gL_law_L_program : GoodIn wsL_law (va_wsS RL 113 yL_program wsL_program) := goodIn_app (goodIn_of _ (by decide +kernel)) ggL_law_L_program
set_option maxRecDepth 20000 in
theorem ggL_law_L_rule : GoodIn wsL_law wsL_rule := goodIn_ca (goodIn_ca (goodIn_r _ [505, 443, 365, 506, 507, 508, 2, 509, 14, 500, 501, 502, 370, 235, 236, 449, 450, 451, 452, 453, 371, 372, 373, 374, 375, 877, 878, 879, 880, 881, 882, 883, 884, 885, 886, 887, 888, 889, 890, 891, 892, 893] (by decide +kernel) (by decide +kernel)) (goodIn_sub (fun _ h => List.mem_append_right _ h) (by decide +kernel))) (goodIn_sub (fun _ h => List.mem_append_left _ (List.mem_append_left _ (List.mem_append_right _ h))) (by decide +kernel))
set_option maxRecDepth 20000 in
theorem gL_law_L_rule : GoodIn wsL_law (va_wsS RL 118 yL_rule wsL_rule) := goodIn_app (goodIn_of _ (by decide +kernel)) ggL_law_L_rule
