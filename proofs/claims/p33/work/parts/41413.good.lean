set_option maxRecDepth 20000 in
theorem c_L_flaws_0 : GoodIn wsL_law [Cond.code yL_flaws cL_flaws 12 (some .boolean)] := goodIn_sub (fun w hw => by
  have h : w ∈ wsL_law0_r37 := by
    cases List.mem_singleton.mp hw
    exact List.mem_of_getElem? (i := 6) rfl
  exact List.mem_append_left _ (List.mem_append_left _ (List.mem_append_left _ (List.mem_append_left _ (List.mem_append_left _ (List.mem_append_left _ (List.mem_append_left _ (List.mem_append_left _ (List.mem_append_left _ (List.mem_append_left _ (List.mem_append_left _ (List.mem_append_left _ (List.mem_append_left _ (List.mem_append_left _ (List.mem_append_left _ (List.mem_append_left _ (List.mem_append_right _ (List.mem_append_right _ (List.mem_append_right _ (List.mem_append_right _ (List.mem_append_right _ (List.mem_append_right _ (List.mem_append_right _ (List.mem_append_right _ (List.mem_append_right _ (List.mem_append_right _ (List.mem_append_right _ (List.mem_append_right _ (List.mem_append_right _ (List.mem_append_right _ (List.mem_append_right _ (List.mem_append_right _ (List.mem_append_right _ (List.mem_append_right _ (List.mem_append_right _ (List.mem_append_right _ (List.mem_append_right _ (List.mem_append_right _ (List.mem_append_right _ (List.mem_append_right _ (List.mem_append_right _ (List.mem_append_right _ (List.mem_append_right _ (List.mem_append_right _ (List.mem_append_right _ (List.mem_append_right _ (List.mem_append_right _ (List.mem_append_right _ (List.mem_append_right _ (List.mem_append_right _ (List.mem_append_right _ (List.mem_append_right _ (h))))))))))))))))))))))))))))))))))))))))))))))))))))) (by decide +kernel)
set_option maxRecDepth 20000 in
theorem c_L_flaws_r1 : GoodIn wsL_law wsL_flaws_r1 := goodIn_r _ [362, 363, 152, 364, 365, 366, 367, 368, 2, 369, 14, 370, 235, 236, 371, 372, 373, 374, 375, 159, 160, 161, 13, 162] (by decide +kernel) (by decide +kernel)
set_option maxRecDepth 20000 in
theorem c_L_flaws_r2 : GoodIn wsL_law wsL_flaws_r2 := goodIn_r _ [48, 28, 29, 27, 163, 33, 37, 52, 60, 164, 165, 166, 36, 167, 168, 169, 170, 171, 172, 75, 173, 174, 175, 176] (by decide +kernel) (by decide +kernel)
set_option maxRecDepth 20000 in
theorem c_L_flaws_r3 : GoodIn wsL_law wsL_flaws_r3 := goodIn_r _ [177, 178, 179, 59, 180, 118, 556, 557, 558, 443, 559, 560, 561, 562, 517, 518, 519, 520, 469, 470, 471, 472, 473, 449] (by decide +kernel) (by decide +kernel)
set_option maxRecDepth 20000 in
theorem c_L_flaws_r4 : GoodIn wsL_law wsL_flaws_r4 := goodIn_r _ [450, 451, 452, 453, 500, 501, 502, 340, 313, 314, 43, 315, 80, 440, 441, 442, 444, 445, 446, 447, 448, 198, 199, 32] (by decide +kernel) (by decide +kernel)
set_option maxRecDepth 20000 in
theorem c_L_flaws_r5 : GoodIn wsL_law wsL_flaws_r5 := goodIn_r _ [200, 201, 189, 190, 191, 192, 193, 194, 195, 196, 69, 197, 202, 203, 204, 205, 70, 206, 207, 208, 209, 71, 503, 504] (by decide +kernel) (by decide +kernel)
set_option maxRecDepth 20000 in
theorem c_L_flaws_r6 : GoodIn wsL_law wsL_flaws_r6 := goodIn_r _ [505, 506, 507, 508, 509, 563, 564, 565, 566, 567, 568, 569, 304, 305, 306, 307, 308, 309, 310, 311, 312, 316, 317, 318] (by decide +kernel) (by decide +kernel)
set_option maxRecDepth 20000 in
theorem c_L_flaws_r7 : GoodIn wsL_law wsL_flaws_r7 := goodIn_r _ [319, 320, 321, 322, 323, 324, 325, 326, 327, 328, 329, 330, 270, 130, 271, 331, 332, 333, 334, 335, 336, 337, 338, 339] (by decide +kernel) (by decide +kernel)
set_option maxRecDepth 20000 in
theorem c_L_flaws_X11 : GoodIn wsL_law wsX110 := goodIn_sub inlX11 (by decide +kernel)
set_option maxRecDepth 20000 in
theorem c_L_flaws_X0 : GoodIn wsL_law wsX00 := goodIn_sub inlX0 (by decide +kernel)
set_option maxRecDepth 20000 in
theorem c_L_flaws_X3 : GoodIn wsL_law wsX30 := goodIn_sub inlX3 (by decide +kernel)
set_option maxRecDepth 20000 in
theorem c_L_flaws_X10 : GoodIn wsL_law wsX100 := goodIn_sub inlX10 (by decide +kernel)
set_option maxRecDepth 20000 in
theorem c_L_flaws_X2 : GoodIn wsL_law wsX20 := goodIn_sub inlX2 (by decide +kernel)
set_option maxRecDepth 20000 in
theorem c_L_flaws_X7 : GoodIn wsL_law wsX70 := goodIn_sub inlX7 (by decide +kernel)
set_option maxRecDepth 20000 in
theorem c_L_flaws_X9 : GoodIn wsL_law wsX90 := goodIn_sub inlX9 (by decide +kernel)
set_option maxRecDepth 20000 in
theorem c_L_flaws_X4 : GoodIn wsL_law wsX40 := goodIn_sub inlX4 (by decide +kernel)
set_option maxRecDepth 20000 in
theorem c_L_flaws_x319 : GoodIn wsL_law ((vx_at0 RX11 319 "java/lang/IllegalArgumentException" ["java/lang/RuntimeException", "java/lang/Exception"]).filter goodWord) := goodIn_sub (fun _ h => List.mem_append_left _ (List.mem_append_left _ (List.mem_append_right _ h))) (by decide +kernel)
set_option maxRecDepth 20000 in
theorem c_L_flaws_x316 : GoodIn wsL_law ((vx_at0 RX11 316 "java/lang/IndexOutOfBoundsException" ["java/lang/RuntimeException", "java/lang/Exception"]).filter goodWord) := goodIn_sub (fun _ h => List.mem_append_right _ h) (by decide +kernel)
theorem ggL_law_L_flaws : GoodIn wsL_law wsL_flaws := goodIn_app c_L_flaws_0 (goodIn_app (goodIn_app (goodIn_app (goodIn_app (goodIn_app (goodIn_app (goodIn_app (goodIn_app (goodIn_app (goodIn_app (goodIn_app c_L_flaws_r1 (goodIn_app c_L_flaws_r2 (goodIn_app c_L_flaws_r3 (goodIn_app c_L_flaws_r4 (goodIn_app c_L_flaws_r5 (goodIn_app c_L_flaws_r6 c_L_flaws_r7)))))) c_L_flaws_X11) c_L_flaws_X0) c_L_flaws_X3) c_L_flaws_X10) c_L_flaws_X2) c_L_flaws_X7) c_L_flaws_X9) c_L_flaws_X4) c_L_flaws_x319) c_L_flaws_x316)
set_option maxRecDepth 20000 in
theorem gL_law_L_flaws : GoodIn wsL_law (va_wsS RL 187 yL_flaws wsL_flaws) := goodIn_app (goodIn_of _ (by decide +kernel)) ggL_law_L_flaws
