set_option maxRecDepth 20000 in
theorem c_L_close_0 : GoodIn wsL_law [Cond.codeWith yL_close cL_close 2 (some .int) [(0, 4, 5, 17)]] := goodIn_r _ [788] (by decide +kernel) (by decide +kernel)
set_option maxRecDepth 20000 in
theorem c_L_close_r1 : GoodIn wsL_law wsL_close_r1 := goodIn_r _ [379, 789, 790, 791, 2, 792, 14, 18, 690, 691, 692, 13, 693, 27, 52, 359, 228, 229, 51, 230, 101, 95, 694, 695] (by decide +kernel) (by decide +kernel)
set_option maxRecDepth 20000 in
theorem c_L_close_r2 : GoodIn wsL_law wsL_close_r2 := goodIn_r _ [696, 697, 60, 48, 291, 292, 293, 59, 294, 118, 235, 236, 287, 288, 289, 47, 290, 88, 257, 258, 259, 260, 90, 253] (by decide +kernel) (by decide +kernel)
set_option maxRecDepth 20000 in
theorem c_L_close_r3 : GoodIn wsL_law wsL_close_r3 := goodIn_r _ [254, 255, 55, 256, 109, 278, 279, 280, 281, 56, 282, 283, 284, 285, 286, 232, 233, 234, 96, 384, 385, 386, 387, 388] (by decide +kernel) (by decide +kernel)
set_option maxRecDepth 20000 in
theorem c_L_close_r4 : GoodIn wsL_law wsL_close_r4 := goodIn_r _ [389, 390, 391, 17, 392, 393, 142, 394, 395, 396, 397, 398, 399, 400, 401, 163, 28, 29, 33, 37, 40, 44, 61, 402] (by decide +kernel) (by decide +kernel)
set_option maxRecDepth 20000 in
theorem c_L_close_r5 : GoodIn wsL_law wsL_close_r5 := goodIn_r _ [403, 404, 32, 405, 201, 69, 70, 71, 126, 127, 128, 129, 130, 131, 132, 133, 134, 135, 406, 407, 408, 36, 409, 168] (by decide +kernel) (by decide +kernel)
set_option maxRecDepth 20000 in
theorem c_L_close_r6 : GoodIn wsL_law wsL_close_r6 := goodIn_r _ [75, 410, 411, 412, 413, 414, 43, 415, 80, 416, 417, 418, 419, 420, 421, 422, 423, 102, 424, 425, 426, 427, 428, 429] (by decide +kernel) (by decide +kernel)
set_option maxRecDepth 20000 in
theorem c_L_close_r7 : GoodIn wsL_law wsL_close_r7 := goodIn_r _ [430, 431, 432, 433, 434, 120, 435, 793, 794, 795, 796, 65, 797, 699, 700, 701, 702, 703, 704, 64, 705, 125, 706, 82] (by decide +kernel) (by decide +kernel)
set_option maxRecDepth 20000 in
theorem c_L_close_r8 : GoodIn wsL_law wsL_close_r8 := goodIn_r _ [83, 84, 261, 262, 263, 264, 265, 266, 267, 268, 269, 270, 271, 272, 273, 274, 275, 276, 277, 231, 707, 708, 709, 710] (by decide +kernel) (by decide +kernel)
set_option maxRecDepth 20000 in
theorem c_L_close_r9 : GoodIn wsL_law wsL_close_r9 := goodIn_r _ [711, 712, 713, 714, 715, 716, 717, 718, 719, 720, 721, 722, 723, 724, 725, 726, 727, 798, 799, 800, 801, 802, 803, 804] (by decide +kernel) (by decide +kernel)
set_option maxRecDepth 20000 in
theorem c_L_close_r10 : GoodIn wsL_law wsL_close_r10 := goodIn_r _ [805, 806, 807, 808, 809, 810, 811, 812, 813, 588, 589, 590, 591, 173, 174, 175, 176, 814, 733, 734, 735, 815, 816, 817] (by decide +kernel) (by decide +kernel)
set_option maxRecDepth 20000 in
theorem c_L_close_r11 : GoodIn wsL_law wsL_close_r11 := goodIn_r _ [818, 819, 820, 821, 822, 823, 824, 825, 826, 732, 827, 111, 112, 113, 114, 828, 829, 830, 831, 832, 833, 834, 835, 295] (by decide +kernel) (by decide +kernel)
set_option maxRecDepth 20000 in
theorem c_L_close_r12 : GoodIn wsL_law wsL_close_r12 := goodIn_r _ [296, 297, 298, 299, 836, 837, 838, 839, 840, 841, 842, 843, 844, 845, 846, 847, 848, 849, 850, 851, 578, 579, 580, 581] (by decide +kernel) (by decide +kernel)
set_option maxRecDepth 20000 in
theorem c_L_close_r13 : GoodIn wsL_law wsL_close_r13 := goodIn_r _ [98, 99, 100, 103, 582, 222, 170, 171, 172, 583, 305, 306, 307, 308, 309, 310, 311, 312, 313, 314, 315, 316, 317, 318] (by decide +kernel) (by decide +kernel)
set_option maxRecDepth 20000 in
theorem c_L_close_r14 : GoodIn wsL_law wsL_close_r14 := goodIn_r _ [319, 320, 207, 208, 209, 197, 198, 199, 200, 321, 322, 323, 324, 325, 203, 204, 205, 326, 327, 328, 329, 330, 331, 194] (by decide +kernel) (by decide +kernel)
set_option maxRecDepth 20000 in
theorem c_L_close_r15 : GoodIn wsL_law wsL_close_r15 := goodIn_r _ [195, 196, 332, 333, 334, 335, 336, 337, 338, 339, 584, 585, 586, 587, 592, 593, 594, 595, 596, 597, 598, 599, 600, 601] (by decide +kernel) (by decide +kernel)
set_option maxRecDepth 20000 in
theorem c_L_close_r16 : GoodIn wsL_law wsL_close_r16 := goodIn_r _ [602, 603] (by decide +kernel) (by decide +kernel)
set_option maxRecDepth 20000 in
theorem c_L_close_X11 : GoodIn wsL_law wsX110 := goodIn_sub inlX11 (by decide +kernel)
set_option maxRecDepth 20000 in
theorem c_L_close_X0 : GoodIn wsL_law wsX00 := goodIn_sub inlX0 (by decide +kernel)
set_option maxRecDepth 20000 in
theorem c_L_close_X7 : GoodIn wsL_law wsX70 := goodIn_sub inlX7 (by decide +kernel)
set_option maxRecDepth 20000 in
theorem c_L_close_X9 : GoodIn wsL_law wsX90 := goodIn_sub inlX9 (by decide +kernel)
set_option maxRecDepth 20000 in
theorem c_L_close_X3 : GoodIn wsL_law wsX30 := goodIn_sub inlX3 (by decide +kernel)
set_option maxRecDepth 20000 in
theorem c_L_close_X6 : GoodIn wsL_law wsX60 := goodIn_sub inlX6 (by decide +kernel)
set_option maxRecDepth 20000 in
theorem c_L_close_X5 : GoodIn wsL_law wsX50 := goodIn_sub inlX5 (by decide +kernel)
set_option maxRecDepth 20000 in
theorem c_L_close_X10 : GoodIn wsL_law wsX100 := goodIn_sub inlX10 (by decide +kernel)
set_option maxRecDepth 20000 in
theorem c_L_close_X2 : GoodIn wsL_law wsX20 := goodIn_sub inlX2 (by decide +kernel)
set_option maxRecDepth 20000 in
theorem c_L_close_X4 : GoodIn wsL_law wsX40 := goodIn_sub inlX4 (by decide +kernel)
set_option maxRecDepth 20000 in
theorem c_L_close_X1 : GoodIn wsL_law wsX10 := goodIn_sub inlX1 (by decide +kernel)
set_option maxRecDepth 20000 in
theorem c_L_close_x322 : GoodIn wsL_law ((vx_at0 RX11 322 "java/lang/IllegalStateException" ["java/lang/RuntimeException", "java/lang/Exception"]).filter goodWord) := goodIn_sub (fun _ h => List.mem_append_left _ (List.mem_append_right _ h)) (by decide +kernel)
theorem ggL_law_L_close : GoodIn wsL_law wsL_close := goodIn_app c_L_close_0 (goodIn_app (goodIn_app (goodIn_app (goodIn_app (goodIn_app (goodIn_app (goodIn_app (goodIn_app (goodIn_app (goodIn_app (goodIn_app (goodIn_app (goodIn_app c_L_close_r1 (goodIn_app c_L_close_r2 (goodIn_app c_L_close_r3 (goodIn_app c_L_close_r4 (goodIn_app c_L_close_r5 (goodIn_app c_L_close_r6 (goodIn_app c_L_close_r7 (goodIn_app c_L_close_r8 (goodIn_app c_L_close_r9 (goodIn_app c_L_close_r10 (goodIn_app c_L_close_r11 (goodIn_app c_L_close_r12 (goodIn_app c_L_close_r13 (goodIn_app c_L_close_r14 (goodIn_app c_L_close_r15 c_L_close_r16))))))))))))))) c_L_close_X11) c_L_close_X0) c_L_close_X7) c_L_close_X9) c_L_close_X3) c_L_close_X6) c_L_close_X5) c_L_close_X10) c_L_close_X2) c_L_close_X4) c_L_close_X1) c_L_close_x322)
set_option maxRecDepth 20000 in
theorem gL_law_L_close : GoodIn wsL_law (va_wsS RL 128 yL_close wsL_close) := goodIn_app (goodIn_of _ (by decide +kernel)) ggL_law_L_close
