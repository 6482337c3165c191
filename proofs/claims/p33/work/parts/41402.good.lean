set_option maxRecDepth 20000 in
theorem c_L_sound_0 : GoodIn wsL_law [Cond.code yL_sound cL_sound 14 (some .boolean)] := goodIn_sub (fun w hw => by
  have h : w ∈ wsL_law0_r33 := by
    cases List.mem_singleton.mp hw
    exact List.mem_of_getElem? (i := 12) rfl
  exact List.mem_append_left _ (List.mem_append_left _ (List.mem_append_left _ (List.mem_append_left _ (List.mem_append_left _ (List.mem_append_left _ (List.mem_append_left _ (List.mem_append_left _ (List.mem_append_left _ (List.mem_append_left _ (List.mem_append_left _ (List.mem_append_left _ (List.mem_append_left _ (List.mem_append_left _ (List.mem_append_left _ (List.mem_append_left _ (List.mem_append_right _ (List.mem_append_right _ (List.mem_append_right _ (List.mem_append_right _ (List.mem_append_right _ (List.mem_append_right _ (List.mem_append_right _ (List.mem_append_right _ (List.mem_append_right _ (List.mem_append_right _ (List.mem_append_right _ (List.mem_append_right _ (List.mem_append_right _ (List.mem_append_right _ (List.mem_append_right _ (List.mem_append_right _ (List.mem_append_right _ (List.mem_append_right _ (List.mem_append_right _ (List.mem_append_right _ (List.mem_append_right _ (List.mem_append_right _ (List.mem_append_right _ (List.mem_append_right _ (List.mem_append_right _ (List.mem_append_right _ (List.mem_append_right _ (List.mem_append_right _ (List.mem_append_right _ (List.mem_append_right _ (List.mem_append_right _ (List.mem_append_right _ (List.mem_append_left _ h))))))))))))))))))))))))))))))))))))))))))))))))) (by decide +kernel)
set_option maxRecDepth 20000 in
theorem c_L_sound_r1 : GoodIn wsL_law wsL_sound_r1 := goodIn_r _ [781, 362, 363, 152, 364, 365, 366, 367, 368, 2, 369, 14, 370, 235, 236, 371, 372, 373, 374, 375, 159, 160, 161, 13] (by decide +kernel) (by decide +kernel)
set_option maxRecDepth 20000 in
theorem c_L_sound_r2 : GoodIn wsL_law wsL_sound_r2 := goodIn_r _ [162, 48, 28, 29, 27, 163, 33, 37, 52, 60, 164, 165, 166, 36, 167, 168, 169, 170, 171, 172, 75, 173, 174, 175] (by decide +kernel) (by decide +kernel)
set_option maxRecDepth 20000 in
theorem c_L_sound_r3 : GoodIn wsL_law wsL_sound_r3 := goodIn_r _ [176, 177, 178, 179, 59, 180, 118, 782, 783, 784, 785, 347, 228, 229, 51, 230, 101, 95, 662, 663, 664, 443, 665, 666] (by decide +kernel) (by decide +kernel)
set_option maxRecDepth 20000 in
theorem c_L_sound_r4 : GoodIn wsL_law wsL_sound_r4 := goodIn_r _ [667, 668, 469, 470, 471, 472, 473, 449, 450, 451, 452, 453, 218, 219, 220, 221, 222, 223, 224, 225, 226, 227, 231, 232] (by decide +kernel) (by decide +kernel)
set_option maxRecDepth 20000 in
theorem c_L_sound_r5 : GoodIn wsL_law wsL_sound_r5 := goodIn_r _ [233, 234, 96, 237, 238, 239, 240, 241, 242, 243, 244, 56, 245, 246, 247, 47, 248, 88, 249, 250, 251, 252, 253, 254] (by decide +kernel) (by decide +kernel)
set_option maxRecDepth 20000 in
theorem c_L_sound_r6 : GoodIn wsL_law wsL_sound_r6 := goodIn_r _ [255, 55, 256, 109, 257, 258, 259, 260, 90, 261, 262, 263, 264, 265, 266, 267, 268, 269, 270, 130, 271, 272, 273, 274] (by decide +kernel) (by decide +kernel)
set_option maxRecDepth 20000 in
theorem c_L_sound_r7 : GoodIn wsL_law wsL_sound_r7 := goodIn_r _ [275, 276, 129, 131, 277, 278, 279, 280, 281, 282, 283, 284, 285, 286, 287, 288, 289, 290, 291, 292, 293, 294, 295, 296] (by decide +kernel) (by decide +kernel)
set_option maxRecDepth 20000 in
theorem c_L_sound_r8 : GoodIn wsL_law wsL_sound_r8 := goodIn_r _ [297, 298, 299, 669, 670, 671, 672, 673, 674, 675, 461, 462, 463, 464, 465, 466, 467, 468, 346] (by decide +kernel) (by decide +kernel)
set_option maxRecDepth 20000 in
theorem c_L_sound_X11 : GoodIn wsL_law wsX110 := goodIn_sub inlX11 (by decide +kernel)
set_option maxRecDepth 20000 in
theorem c_L_sound_X0 : GoodIn wsL_law wsX00 := goodIn_sub inlX0 (by decide +kernel)
set_option maxRecDepth 20000 in
theorem c_L_sound_X3 : GoodIn wsL_law wsX30 := goodIn_sub inlX3 (by decide +kernel)
set_option maxRecDepth 20000 in
theorem c_L_sound_X10 : GoodIn wsL_law wsX100 := goodIn_sub inlX10 (by decide +kernel)
set_option maxRecDepth 20000 in
theorem c_L_sound_X2 : GoodIn wsL_law wsX20 := goodIn_sub inlX2 (by decide +kernel)
set_option maxRecDepth 20000 in
theorem c_L_sound_X7 : GoodIn wsL_law wsX70 := goodIn_sub inlX7 (by decide +kernel)
set_option maxRecDepth 20000 in
theorem c_L_sound_X9 : GoodIn wsL_law wsX90 := goodIn_sub inlX9 (by decide +kernel)
set_option maxRecDepth 20000 in
theorem c_L_sound_X6 : GoodIn wsL_law wsX60 := goodIn_sub inlX6 (by decide +kernel)
set_option maxRecDepth 20000 in
theorem c_L_sound_x319 : GoodIn wsL_law ((vx_at0 RX11 319 "java/lang/IllegalArgumentException" ["java/lang/RuntimeException", "java/lang/Exception"]).filter goodWord) := goodIn_sub (fun _ h => List.mem_append_left _ (List.mem_append_left _ (List.mem_append_right _ h))) (by decide +kernel)
set_option maxRecDepth 20000 in
theorem c_L_sound_x316 : GoodIn wsL_law ((vx_at0 RX11 316 "java/lang/IndexOutOfBoundsException" ["java/lang/RuntimeException", "java/lang/Exception"]).filter goodWord) := goodIn_sub (fun _ h => List.mem_append_right _ h) (by decide +kernel)
theorem ggL_law_L_sound : GoodIn wsL_law wsL_sound := goodIn_app c_L_sound_0 (goodIn_app (goodIn_app (goodIn_app (goodIn_app (goodIn_app (goodIn_app (goodIn_app (goodIn_app (goodIn_app (goodIn_app (goodIn_app c_L_sound_r1 (goodIn_app c_L_sound_r2 (goodIn_app c_L_sound_r3 (goodIn_app c_L_sound_r4 (goodIn_app c_L_sound_r5 (goodIn_app c_L_sound_r6 (goodIn_app c_L_sound_r7 c_L_sound_r8))))))) c_L_sound_X11) c_L_sound_X0) c_L_sound_X3) c_L_sound_X10) c_L_sound_X2) c_L_sound_X7) c_L_sound_X9) c_L_sound_X6) c_L_sound_x319) c_L_sound_x316)
set_option maxRecDepth 20000 in
theorem gL_law_L_sound : GoodIn wsL_law (va_wsS RL 168 yL_sound wsL_sound) := goodIn_app (goodIn_of _ (by decide +kernel)) ggL_law_L_sound
