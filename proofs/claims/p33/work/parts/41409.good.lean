set_option maxRecDepth 20000 in
theorem c_L_info_0 : GoodIn wsL_law [Cond.codeWith yL_info cL_info 3 (some .int) [(0, 5, 6, 15)]] := goodIn_r _ [364] (by decide +kernel) (by decide +kernel)
set_option maxRecDepth 20000 in
theorem c_L_info_r1 : GoodIn wsL_law wsL_info_r1 := goodIn_r _ [365, 366, 367, 368, 2, 369, 14, 370, 235, 236, 371, 372, 373, 374, 375, 159, 160, 161, 13, 162, 48, 28, 29, 27] (by decide +kernel) (by decide +kernel)
set_option maxRecDepth 20000 in
theorem c_L_info_r2 : GoodIn wsL_law wsL_info_r2 := goodIn_r _ [163, 33, 37, 52, 60, 164, 165, 166, 36, 167, 168, 169, 170, 171, 172, 75, 173, 174, 175, 176, 177, 178, 179, 59] (by decide +kernel) (by decide +kernel)
set_option maxRecDepth 20000 in
theorem c_L_info_r3 : GoodIn wsL_law wsL_info_r3 := goodIn_r _ [180, 118] (by decide +kernel) (by decide +kernel)
set_option maxRecDepth 20000 in
theorem c_L_info_X11 : GoodIn wsL_law wsX110 := goodIn_sub inlX11 (by decide +kernel)
set_option maxRecDepth 20000 in
theorem c_L_info_X0 : GoodIn wsL_law wsX00 := goodIn_sub inlX0 (by decide +kernel)
set_option maxRecDepth 20000 in
theorem c_L_info_X3 : GoodIn wsL_law wsX30 := goodIn_sub inlX3 (by decide +kernel)
set_option maxRecDepth 20000 in
theorem c_L_info_X10 : GoodIn wsL_law wsX100 := goodIn_sub inlX10 (by decide +kernel)
set_option maxRecDepth 20000 in
theorem c_L_info_X2 : GoodIn wsL_law wsX20 := goodIn_sub inlX2 (by decide +kernel)
set_option maxRecDepth 20000 in
theorem c_L_info_X7 : GoodIn wsL_law wsX70 := goodIn_sub inlX7 (by decide +kernel)
set_option maxRecDepth 20000 in
theorem c_L_info_X9 : GoodIn wsL_law wsX90 := goodIn_sub inlX9 (by decide +kernel)
set_option maxRecDepth 20000 in
theorem c_L_info_x319 : GoodIn wsL_law ((vx_at0 RX11 319 "java/lang/IllegalArgumentException" ["java/lang/RuntimeException", "java/lang/Exception"]).filter goodWord) := goodIn_sub (fun _ h => List.mem_append_left _ (List.mem_append_left _ (List.mem_append_right _ h))) (by decide +kernel)
theorem ggL_law_L_info : GoodIn wsL_law wsL_info := goodIn_app c_L_info_0 (goodIn_app (goodIn_app (goodIn_app (goodIn_app (goodIn_app (goodIn_app (goodIn_app (goodIn_app (goodIn_app c_L_info_r1 (goodIn_app c_L_info_r2 c_L_info_r3)) c_L_info_X11) c_L_info_X0) c_L_info_X3) c_L_info_X10) c_L_info_X2) c_L_info_X7) c_L_info_X9) c_L_info_x319)
set_option maxRecDepth 20000 in
theorem gL_law_L_info : GoodIn wsL_law (va_wsS RL 98 yL_info wsL_info) := goodIn_app (goodIn_of _ (by decide +kernel)) ggL_law_L_info
set_option maxRecDepth 20000 in
theorem ggL_law_X11_clearText : GoodIn wsL_law wsX11_clearText := goodIn_r _ [863, 22, 877, 878, 879, 896, 897, 898, 899, 900] (by decide +kernel) (by decide +kernel)
set_option maxRecDepth 20000 in
theorem gL_law_X11_clearText : GoodIn wsL_law (wsV RL 181 RX11 yX11_clearText wsX11_clearText) := goodIn_app (goodIn_of _ (by decide +kernel)) ggL_law_X11_clearText
set_option maxRecDepth 20000 in
theorem c_L_type_0 : GoodIn wsL_law [Cond.codeWith yL_type cL_type 3 (some .int) [(0, 5, 6, 15), (0, 5, 11, 17)]] := goodIn_r _ [747] (by decide +kernel) (by decide +kernel)
set_option maxRecDepth 20000 in
theorem c_L_type_r1 : GoodIn wsL_law wsL_type_r1 := goodIn_r _ [365, 379, 748, 749, 750, 2, 751, 22, 370, 235, 236, 371, 372, 373, 374, 375, 384, 385, 386, 387, 388, 752, 753, 754] (by decide +kernel) (by decide +kernel)
set_option maxRecDepth 20000 in
theorem c_L_type_r2 : GoodIn wsL_law wsL_type_r2 := goodIn_r _ [21, 755, 530, 147] (by decide +kernel) (by decide +kernel)
set_option maxRecDepth 20000 in
theorem c_L_type_X11 : GoodIn wsL_law wsX110 := goodIn_sub inlX11 (by decide +kernel)
set_option maxRecDepth 20000 in
theorem c_L_type_X8 : GoodIn wsL_law wsX80 := goodIn_sub inlX8 (by decide +kernel)
set_option maxRecDepth 20000 in
theorem c_L_type_x319 : GoodIn wsL_law ((vx_at0 RX11 319 "java/lang/IllegalArgumentException" ["java/lang/RuntimeException", "java/lang/Exception"]).filter goodWord) := goodIn_sub (fun _ h => List.mem_append_left _ (List.mem_append_left _ (List.mem_append_right _ h))) (by decide +kernel)
set_option maxRecDepth 20000 in
theorem c_L_type_x322 : GoodIn wsL_law ((vx_at0 RX11 322 "java/lang/IllegalStateException" ["java/lang/RuntimeException", "java/lang/Exception"]).filter goodWord) := goodIn_sub (fun _ h => List.mem_append_left _ (List.mem_append_right _ h)) (by decide +kernel)
theorem ggL_law_L_type : GoodIn wsL_law wsL_type := goodIn_app c_L_type_0 (goodIn_app (goodIn_app (goodIn_app (goodIn_app (goodIn_app c_L_type_r1 c_L_type_r2) c_L_type_X11) c_L_type_X8) c_L_type_x319) c_L_type_x322)
set_option maxRecDepth 20000 in
theorem gL_law_L_type : GoodIn wsL_law (va_wsS RL 159 yL_type wsL_type) := goodIn_app (goodIn_of _ (by decide +kernel)) ggL_law_L_type
set_option maxRecDepth 20000 in
theorem c_X11_fault_0 : GoodIn wsL_law [Cond.code yX11_fault cX11_fault 1 (some .int)] := goodIn_r _ [867] (by decide +kernel) (by decide +kernel)
set_option maxRecDepth 20000 in
theorem c_X11_fault_r1 : GoodIn wsL_law wsX11_fault_r1 := goodIn_r _ [22, 14, 521, 522, 523, 21, 524, 525, 148, 149, 526, 527, 528, 529, 530, 147, 235, 2, 236, 531, 532, 533, 534, 535] (by decide +kernel) (by decide +kernel)
set_option maxRecDepth 20000 in
theorem c_X11_fault_r2 : GoodIn wsL_law wsX11_fault_r2 := goodIn_r _ [536, 537, 538] (by decide +kernel) (by decide +kernel)
set_option maxRecDepth 20000 in
theorem c_X11_fault_X11 : GoodIn wsL_law wsX110 := goodIn_sub inlX11 (by decide +kernel)
set_option maxRecDepth 20000 in
theorem c_X11_fault_X0 : GoodIn wsL_law wsX00 := goodIn_sub inlX0 (by decide +kernel)
set_option maxRecDepth 20000 in
theorem c_X11_fault_X10 : GoodIn wsL_law wsX100 := goodIn_sub inlX10 (by decide +kernel)
set_option maxRecDepth 20000 in
theorem c_X11_fault_X8 : GoodIn wsL_law wsX80 := goodIn_sub inlX8 (by decide +kernel)
theorem ggL_law_X11_fault : GoodIn wsL_law wsX11_fault := goodIn_app c_X11_fault_0 (goodIn_app (goodIn_app (goodIn_app (goodIn_app (goodIn_app c_X11_fault_r1 c_X11_fault_r2) c_X11_fault_X11) c_X11_fault_X0) c_X11_fault_X10) c_X11_fault_X8)
set_option maxRecDepth 20000 in
theorem gL_law_X11_fault : GoodIn wsL_law (wsV RL 184 RX11 yX11_fault wsX11_fault) := goodIn_app (goodIn_of _ (by decide +kernel)) ggL_law_X11_fault
