set_option maxRecDepth 20000 in
theorem c_L_needs_0 : GoodIn wsL_law [Cond.code yL_needs cL_needs 7 (some .boolean)] := goodIn_sub (fun w hw => by
  have h : w ∈ wsL_law0_r37 := by
    cases List.mem_singleton.mp hw
    exact List.mem_of_getElem? (i := 9) rfl
  exact List.mem_append_left _ (List.mem_append_left _ (List.mem_append_left _ (List.mem_append_left _ (List.mem_append_left _ (List.mem_append_left _ (List.mem_append_left _ (List.mem_append_left _ (List.mem_append_left _ (List.mem_append_left _ (List.mem_append_left _ (List.mem_append_left _ (List.mem_append_left _ (List.mem_append_left _ (List.mem_append_left _ (List.mem_append_left _ (List.mem_append_right _ (List.mem_append_right _ (List.mem_append_right _ (List.mem_append_right _ (List.mem_append_right _ (List.mem_append_right _ (List.mem_append_right _ (List.mem_append_right _ (List.mem_append_right _ (List.mem_append_right _ (List.mem_append_right _ (List.mem_append_right _ (List.mem_append_right _ (List.mem_append_right _ (List.mem_append_right _ (List.mem_append_right _ (List.mem_append_right _ (List.mem_append_right _ (List.mem_append_right _ (List.mem_append_right _ (List.mem_append_right _ (List.mem_append_right _ (List.mem_append_right _ (List.mem_append_right _ (List.mem_append_right _ (List.mem_append_right _ (List.mem_append_right _ (List.mem_append_right _ (List.mem_append_right _ (List.mem_append_right _ (List.mem_append_right _ (List.mem_append_right _ (List.mem_append_right _ (List.mem_append_right _ (List.mem_append_right _ (List.mem_append_right _ (h))))))))))))))))))))))))))))))))))))))))))))))))))))) (by decide +kernel)
set_option maxRecDepth 20000 in
theorem c_L_needs_r1 : GoodIn wsL_law wsL_needs_r1 := goodIn_r _ [736, 737, 152, 738, 443, 365, 379, 739, 740, 741, 2, 742, 743, 14, 461, 462, 463, 464, 465, 466, 467, 47, 468, 88] (by decide +kernel) (by decide +kernel)
set_option maxRecDepth 20000 in
theorem c_L_needs_r2 : GoodIn wsL_law wsL_needs_r2 := goodIn_r _ [449, 450, 451, 452, 453, 469, 470, 471, 472, 473, 174, 175, 36, 176, 168, 370, 235, 236, 371, 372, 373, 374, 375, 384] (by decide +kernel) (by decide +kernel)
set_option maxRecDepth 20000 in
theorem c_L_needs_r3 : GoodIn wsL_law wsL_needs_r3 := goodIn_r _ [385, 386, 387, 388, 651, 283, 284, 51, 285, 286, 232, 233, 234, 96, 345, 258, 259, 260, 90, 744, 266, 267, 13, 268] (by decide +kernel) (by decide +kernel)
set_option maxRecDepth 20000 in
theorem c_L_needs_r4 : GoodIn wsL_law wsL_needs_r4 := goodIn_r _ [48, 56, 52, 269, 270, 130, 271, 29, 272, 273, 274, 275, 276, 129, 131, 277, 253, 254, 255, 55, 256, 109, 257, 231] (by decide +kernel) (by decide +kernel)
set_option maxRecDepth 20000 in
theorem c_L_needs_r5 : GoodIn wsL_law wsL_needs_r5 := goodIn_r _ [362, 363, 364, 366, 367, 368, 369, 159, 160, 161, 162, 28, 27, 163, 33, 37, 60, 164, 165, 166, 167, 169, 170, 171] (by decide +kernel) (by decide +kernel)
set_option maxRecDepth 20000 in
theorem c_L_needs_r6 : GoodIn wsL_law wsL_needs_r6 := goodIn_r _ [172, 75, 173, 177, 178, 179, 59, 180, 118, 662, 663, 664, 665, 666, 667, 668, 218, 219, 220, 221, 222, 223, 224, 225] (by decide +kernel) (by decide +kernel)
set_option maxRecDepth 20000 in
theorem c_L_needs_r7 : GoodIn wsL_law wsL_needs_r7 := goodIn_r _ [226, 101, 227, 228, 229, 230, 95, 237, 238, 239, 240, 241, 242, 243, 244, 245, 246, 247, 248, 249, 250, 251, 252, 261] (by decide +kernel) (by decide +kernel)
set_option maxRecDepth 20000 in
theorem c_L_needs_r8 : GoodIn wsL_law wsL_needs_r8 := goodIn_r _ [262, 263, 264, 265, 278, 279, 280, 281, 282, 287, 288, 289, 290, 291, 292, 293, 294, 295, 296, 297, 298, 299, 615, 616] (by decide +kernel) (by decide +kernel)
set_option maxRecDepth 20000 in
theorem c_L_needs_r9 : GoodIn wsL_law wsL_needs_r9 := goodIn_r _ [617, 618, 619, 620, 621, 622, 623, 624, 625, 18, 626, 627, 628, 629, 389, 390, 391, 17, 392, 393, 142, 394, 395, 396] (by decide +kernel) (by decide +kernel)
set_option maxRecDepth 20000 in
theorem c_L_needs_r10 : GoodIn wsL_law wsL_needs_r10 := goodIn_r _ [397, 398, 399, 400, 401, 40, 44, 61, 402, 403, 404, 32, 405, 201, 69, 70, 71, 126, 127, 128, 132, 133, 134, 135] (by decide +kernel) (by decide +kernel)
set_option maxRecDepth 20000 in
theorem c_L_needs_r11 : GoodIn wsL_law wsL_needs_r11 := goodIn_r _ [406, 407, 408, 409, 410, 411, 412, 413, 414, 43, 415, 80, 416, 417, 418, 419, 420, 421, 422, 423, 102, 424, 425, 426] (by decide +kernel) (by decide +kernel)
set_option maxRecDepth 20000 in
theorem c_L_needs_r12 : GoodIn wsL_law wsL_needs_r12 := goodIn_r _ [427, 428, 429, 430, 431, 432, 433, 434, 120, 435, 630, 631, 632, 633, 634, 635, 767, 768, 769, 770, 771, 772, 773, 774] (by decide +kernel) (by decide +kernel)
set_option maxRecDepth 20000 in
theorem c_L_needs_r13 : GoodIn wsL_law wsL_needs_r13 := goodIn_r _ [775, 776, 777] (by decide +kernel) (by decide +kernel)
set_option maxRecDepth 20000 in
theorem c_L_needs_X11 : GoodIn wsL_law wsX110 := goodIn_sub inlX11 (by decide +kernel)
set_option maxRecDepth 20000 in
theorem c_L_needs_X0 : GoodIn wsL_law wsX00 := goodIn_sub inlX0 (by decide +kernel)
set_option maxRecDepth 20000 in
theorem c_L_needs_X3 : GoodIn wsL_law wsX30 := goodIn_sub inlX3 (by decide +kernel)
set_option maxRecDepth 20000 in
theorem c_L_needs_X2 : GoodIn wsL_law wsX20 := goodIn_sub inlX2 (by decide +kernel)
set_option maxRecDepth 20000 in
theorem c_L_needs_X7 : GoodIn wsL_law wsX70 := goodIn_sub inlX7 (by decide +kernel)
set_option maxRecDepth 20000 in
theorem c_L_needs_X6 : GoodIn wsL_law wsX60 := goodIn_sub inlX6 (by decide +kernel)
set_option maxRecDepth 20000 in
theorem c_L_needs_X10 : GoodIn wsL_law wsX100 := goodIn_sub inlX10 (by decide +kernel)
set_option maxRecDepth 20000 in
theorem c_L_needs_X9 : GoodIn wsL_law wsX90 := goodIn_sub inlX9 (by decide +kernel)
set_option maxRecDepth 20000 in
theorem c_L_needs_X5 : GoodIn wsL_law wsX50 := goodIn_sub inlX5 (by decide +kernel)
set_option maxRecDepth 20000 in
theorem c_L_needs_X4 : GoodIn wsL_law wsX40 := goodIn_sub inlX4 (by decide +kernel)
set_option maxRecDepth 20000 in
theorem c_L_needs_x316 : GoodIn wsL_law ((vx_at0 RX11 316 "java/lang/IndexOutOfBoundsException" ["java/lang/RuntimeException", "java/lang/Exception"]).filter goodWord) := goodIn_sub (fun _ h => List.mem_append_right _ h) (by decide +kernel)
set_option maxRecDepth 20000 in
theorem c_L_needs_x319 : GoodIn wsL_law ((vx_at0 RX11 319 "java/lang/IllegalArgumentException" ["java/lang/RuntimeException", "java/lang/Exception"]).filter goodWord) := goodIn_sub (fun _ h => List.mem_append_left _ (List.mem_append_left _ (List.mem_append_right _ h))) (by decide +kernel)
set_option maxRecDepth 20000 in
theorem c_L_needs_x322 : GoodIn wsL_law ((vx_at0 RX11 322 "java/lang/IllegalStateException" ["java/lang/RuntimeException", "java/lang/Exception"]).filter goodWord) := goodIn_sub (fun _ h => List.mem_append_left _ (List.mem_append_right _ h)) (by decide +kernel)
theorem ggL_law_L_needs : GoodIn wsL_law wsL_needs := goodIn_app c_L_needs_0 (goodIn_app (goodIn_app (goodIn_app (goodIn_app (goodIn_app (goodIn_app (goodIn_app (goodIn_app (goodIn_app (goodIn_app (goodIn_app (goodIn_app (goodIn_app (goodIn_app c_L_needs_r1 (goodIn_app c_L_needs_r2 (goodIn_app c_L_needs_r3 (goodIn_app c_L_needs_r4 (goodIn_app c_L_needs_r5 (goodIn_app c_L_needs_r6 (goodIn_app c_L_needs_r7 (goodIn_app c_L_needs_r8 (goodIn_app c_L_needs_r9 (goodIn_app c_L_needs_r10 (goodIn_app c_L_needs_r11 (goodIn_app c_L_needs_r12 c_L_needs_r13)))))))))))) c_L_needs_X11) c_L_needs_X0) c_L_needs_X3) c_L_needs_X2) c_L_needs_X7) c_L_needs_X6) c_L_needs_X10) c_L_needs_X9) c_L_needs_X5) c_L_needs_X4) c_L_needs_x316) c_L_needs_x319) c_L_needs_x322)
set_option maxRecDepth 20000 in
theorem gL_law_L_needs : GoodIn wsL_law (va_wsS RL 191 yL_needs wsL_needs) := goodIn_app (goodIn_of _ (by decide +kernel)) ggL_law_L_needs
