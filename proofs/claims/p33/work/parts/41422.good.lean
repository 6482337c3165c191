set_option maxRecDepth 20000 in
theorem c_L_closes_0 : GoodIn wsL_law [Cond.code yL_closes cL_closes 16 (some .boolean)] := goodIn_sub (fun w hw => by
  have h : w ∈ wsL_law0_r37 := by
    cases List.mem_singleton.mp hw
    exact List.mem_of_getElem? (i := 12) rfl
  exact List.mem_append_left _ (List.mem_append_left _ (List.mem_append_left _ (List.mem_append_left _ (List.mem_append_left _ (List.mem_append_left _ (List.mem_append_left _ (List.mem_append_left _ (List.mem_append_left _ (List.mem_append_left _ (List.mem_append_left _ (List.mem_append_left _ (List.mem_append_left _ (List.mem_append_left _ (List.mem_append_left _ (List.mem_append_left _ (List.mem_append_right _ (List.mem_append_right _ (List.mem_append_right _ (List.mem_append_right _ (List.mem_append_right _ (List.mem_append_right _ (List.mem_append_right _ (List.mem_append_right _ (List.mem_append_right _ (List.mem_append_right _ (List.mem_append_right _ (List.mem_append_right _ (List.mem_append_right _ (List.mem_append_right _ (List.mem_append_right _ (List.mem_append_right _ (List.mem_append_right _ (List.mem_append_right _ (List.mem_append_right _ (List.mem_append_right _ (List.mem_append_right _ (List.mem_append_right _ (List.mem_append_right _ (List.mem_append_right _ (List.mem_append_right _ (List.mem_append_right _ (List.mem_append_right _ (List.mem_append_right _ (List.mem_append_right _ (List.mem_append_right _ (List.mem_append_right _ (List.mem_append_right _ (List.mem_append_right _ (List.mem_append_right _ (List.mem_append_right _ (List.mem_append_right _ (h))))))))))))))))))))))))))))))))))))))))))))))))))))) (by decide +kernel)
set_option maxRecDepth 20000 in
theorem c_L_closes_r1 : GoodIn wsL_law wsL_closes_r1 := goodIn_r _ [39, 362, 363, 152, 364, 365, 366, 367, 368, 2, 369, 14, 370, 235, 236, 371, 372, 373, 374, 375, 159, 160, 161, 13] (by decide +kernel) (by decide +kernel)
set_option maxRecDepth 20000 in
theorem c_L_closes_r2 : GoodIn wsL_law wsL_closes_r2 := goodIn_r _ [162, 48, 28, 29, 27, 163, 33, 37, 52, 60, 164, 165, 166, 36, 167, 168, 169, 170, 171, 172, 75, 173, 174, 175] (by decide +kernel) (by decide +kernel)
set_option maxRecDepth 20000 in
theorem c_L_closes_r3 : GoodIn wsL_law wsL_closes_r3 := goodIn_r _ [176, 177, 178, 179, 59, 180, 118, 683, 684, 685, 686, 687, 688, 689, 690, 691, 692, 693, 359, 228, 229, 51, 230, 101] (by decide +kernel) (by decide +kernel)
set_option maxRecDepth 20000 in
theorem c_L_closes_r4 : GoodIn wsL_law wsL_closes_r4 := goodIn_r _ [95, 694, 695, 696, 697, 291, 292, 293, 294, 287, 288, 289, 47, 290, 88, 257, 258, 259, 260, 90, 253, 254, 255, 55] (by decide +kernel) (by decide +kernel)
set_option maxRecDepth 20000 in
theorem c_L_closes_r5 : GoodIn wsL_law wsL_closes_r5 := goodIn_r _ [256, 109, 278, 279, 280, 281, 56, 282, 283, 284, 285, 286, 232, 233, 234, 96, 698, 699, 700, 701, 65, 40, 702, 703] (by decide +kernel) (by decide +kernel)
set_option maxRecDepth 20000 in
theorem c_L_closes_r6 : GoodIn wsL_law wsL_closes_r6 := goodIn_r _ [704, 64, 705, 125, 706, 82, 83, 84, 261, 262, 263, 264, 265, 266, 267, 268, 269, 270, 130, 271, 272, 273, 274, 275] (by decide +kernel) (by decide +kernel)
set_option maxRecDepth 20000 in
theorem c_L_closes_r7 : GoodIn wsL_law wsL_closes_r7 := goodIn_r _ [276, 129, 131, 277, 231, 707, 708, 709, 710, 711, 712, 713, 714, 715, 716, 717, 718, 719, 720, 721, 722, 723, 724, 725] (by decide +kernel) (by decide +kernel)
set_option maxRecDepth 20000 in
theorem c_L_closes_r8 : GoodIn wsL_law wsL_closes_r8 := goodIn_r _ [726, 727, 728, 729, 730, 731, 732, 733, 734, 735, 662, 663, 664, 443, 665, 666, 667, 668, 469, 470, 471, 472, 473, 449] (by decide +kernel) (by decide +kernel)
set_option maxRecDepth 20000 in
theorem c_L_closes_r9 : GoodIn wsL_law wsL_closes_r9 := goodIn_r _ [450, 451, 452, 453, 218, 219, 220, 221, 222, 223, 224, 225, 226, 227, 237, 238, 239, 240, 241, 242, 243, 244, 245, 246] (by decide +kernel) (by decide +kernel)
set_option maxRecDepth 20000 in
theorem c_L_closes_r10 : GoodIn wsL_law wsL_closes_r10 := goodIn_r _ [247, 248, 249, 250, 251, 252, 295, 296, 297, 298, 299, 503, 504, 505, 506, 507, 508, 509, 500, 501, 502, 154, 155, 156] (by decide +kernel) (by decide +kernel)
set_option maxRecDepth 20000 in
theorem c_L_closes_r11 : GoodIn wsL_law wsL_closes_r11 := goodIn_r _ [157, 158, 22, 18, 181, 182, 183, 184, 185, 186, 187, 188, 189, 190, 191, 32, 192, 193, 194, 195, 196, 69, 197, 198] (by decide +kernel) (by decide +kernel)
set_option maxRecDepth 20000 in
theorem c_L_closes_r12 : GoodIn wsL_law wsL_closes_r12 := goodIn_r _ [199, 200, 201, 202, 203, 204, 205, 70, 206, 207, 208, 209, 71, 210, 211, 212, 213, 214, 215, 216, 217, 300, 301, 302] (by decide +kernel) (by decide +kernel)
set_option maxRecDepth 20000 in
theorem c_L_closes_r13 : GoodIn wsL_law wsL_closes_r13 := goodIn_r _ [303, 304, 305, 306, 43, 307, 308, 309, 310, 311, 312, 313, 314, 315, 80, 316, 317, 318, 319, 320, 321, 322, 323, 324] (by decide +kernel) (by decide +kernel)
set_option maxRecDepth 20000 in
theorem c_L_closes_r14 : GoodIn wsL_law wsL_closes_r14 := goodIn_r _ [325, 326, 327, 328, 329, 330, 331, 332, 333, 334, 335, 336, 337, 338, 339, 340, 341, 342, 343, 344, 345, 346, 347, 348] (by decide +kernel) (by decide +kernel)
set_option maxRecDepth 20000 in
theorem c_L_closes_r15 : GoodIn wsL_law wsL_closes_r15 := goodIn_r _ [349, 350, 351, 352, 353, 354, 355, 356, 357, 358, 360, 361, 786, 787, 788, 379, 789, 790, 791, 792, 384, 385, 386, 387] (by decide +kernel) (by decide +kernel)
set_option maxRecDepth 20000 in
theorem c_L_closes_r16 : GoodIn wsL_law wsL_closes_r16 := goodIn_r _ [388, 389, 390, 391, 17, 392, 393, 142, 394, 395, 396, 397, 398, 399, 400, 401, 44, 61, 402, 403, 404, 405, 126, 127] (by decide +kernel) (by decide +kernel)
set_option maxRecDepth 20000 in
theorem c_L_closes_r17 : GoodIn wsL_law wsL_closes_r17 := goodIn_r _ [128, 132, 133, 134, 135, 406, 407, 408, 409, 410, 411, 412, 413, 414, 415, 416, 417, 418, 419, 420, 421, 422, 423, 102] (by decide +kernel) (by decide +kernel)
set_option maxRecDepth 20000 in
theorem c_L_closes_r18 : GoodIn wsL_law wsL_closes_r18 := goodIn_r _ [424, 425, 426, 427, 428, 429, 430, 431, 432, 433, 434, 120, 435, 793, 794, 795, 796, 797, 798, 799, 800, 801, 802, 803] (by decide +kernel) (by decide +kernel)
set_option maxRecDepth 20000 in
theorem c_L_closes_r19 : GoodIn wsL_law wsL_closes_r19 := goodIn_r _ [804, 805, 806, 807, 808, 809, 810, 811, 812, 813, 588, 589, 590, 591, 814, 815, 816, 817, 818, 819, 820, 821, 822, 823] (by decide +kernel) (by decide +kernel)
set_option maxRecDepth 20000 in
theorem c_L_closes_r20 : GoodIn wsL_law wsL_closes_r20 := goodIn_r _ [824, 825, 826, 827, 111, 112, 113, 114, 828, 829, 830, 831, 832, 833, 834, 835, 836, 837, 838, 839, 840, 841, 842, 843] (by decide +kernel) (by decide +kernel)
set_option maxRecDepth 20000 in
theorem c_L_closes_r21 : GoodIn wsL_law wsL_closes_r21 := goodIn_r _ [844, 845, 846, 847, 848, 849, 850, 851, 578, 579, 580, 581, 98, 99, 100, 103, 582, 583, 584, 585, 586, 587, 592, 593] (by decide +kernel) (by decide +kernel)
set_option maxRecDepth 20000 in
theorem c_L_closes_r22 : GoodIn wsL_law wsL_closes_r22 := goodIn_r _ [594, 595, 596, 597, 598, 599, 600, 601, 602, 603, 676, 677, 678, 679, 680, 681, 682, 517, 518, 519, 520, 767, 768, 769] (by decide +kernel) (by decide +kernel)
set_option maxRecDepth 20000 in
theorem c_L_closes_r23 : GoodIn wsL_law wsL_closes_r23 := goodIn_r _ [770, 771, 772, 773, 774, 775, 776, 777] (by decide +kernel) (by decide +kernel)
set_option maxRecDepth 20000 in
theorem c_L_closes_X11 : GoodIn wsL_law wsX110 := goodIn_sub inlX11 (by decide +kernel)
set_option maxRecDepth 20000 in
theorem c_L_closes_X0 : GoodIn wsL_law wsX00 := goodIn_sub inlX0 (by decide +kernel)
set_option maxRecDepth 20000 in
theorem c_L_closes_X3 : GoodIn wsL_law wsX30 := goodIn_sub inlX3 (by decide +kernel)
set_option maxRecDepth 20000 in
theorem c_L_closes_X10 : GoodIn wsL_law wsX100 := goodIn_sub inlX10 (by decide +kernel)
set_option maxRecDepth 20000 in
theorem c_L_closes_X2 : GoodIn wsL_law wsX20 := goodIn_sub inlX2 (by decide +kernel)
set_option maxRecDepth 20000 in
theorem c_L_closes_X7 : GoodIn wsL_law wsX70 := goodIn_sub inlX7 (by decide +kernel)
set_option maxRecDepth 20000 in
theorem c_L_closes_X9 : GoodIn wsL_law wsX90 := goodIn_sub inlX9 (by decide +kernel)
set_option maxRecDepth 20000 in
theorem c_L_closes_X6 : GoodIn wsL_law wsX60 := goodIn_sub inlX6 (by decide +kernel)
set_option maxRecDepth 20000 in
theorem c_L_closes_X1 : GoodIn wsL_law wsX10 := goodIn_sub inlX1 (by decide +kernel)
set_option maxRecDepth 20000 in
theorem c_L_closes_X8 : GoodIn wsL_law wsX80 := goodIn_sub inlX8 (by decide +kernel)
set_option maxRecDepth 20000 in
theorem c_L_closes_X5 : GoodIn wsL_law wsX50 := goodIn_sub inlX5 (by decide +kernel)
set_option maxRecDepth 20000 in
theorem c_L_closes_X4 : GoodIn wsL_law wsX40 := goodIn_sub inlX4 (by decide +kernel)
set_option maxRecDepth 20000 in
theorem c_L_closes_x319 : GoodIn wsL_law ((vx_at0 RX11 319 "java/lang/IllegalArgumentException" ["java/lang/RuntimeException", "java/lang/Exception"]).filter goodWord) := goodIn_sub (fun _ h => List.mem_append_left _ (List.mem_append_left _ (List.mem_append_right _ h))) (by decide +kernel)
set_option maxRecDepth 20000 in
theorem c_L_closes_x316 : GoodIn wsL_law ((vx_at0 RX11 316 "java/lang/IndexOutOfBoundsException" ["java/lang/RuntimeException", "java/lang/Exception"]).filter goodWord) := goodIn_sub (fun _ h => List.mem_append_right _ h) (by decide +kernel)
set_option maxRecDepth 20000 in
theorem c_L_closes_x322 : GoodIn wsL_law ((vx_at0 RX11 322 "java/lang/IllegalStateException" ["java/lang/RuntimeException", "java/lang/Exception"]).filter goodWord) := goodIn_sub (fun _ h => List.mem_append_left _ (List.mem_append_right _ h)) (by decide +kernel)
theorem ggL_law_L_closes : GoodIn wsL_law wsL_closes := goodIn_app c_L_closes_0 (goodIn_app (goodIn_app (goodIn_app (goodIn_app (goodIn_app (goodIn_app (goodIn_app (goodIn_app (goodIn_app (goodIn_app (goodIn_app (goodIn_app (goodIn_app (goodIn_app (goodIn_app (goodIn_app c_L_closes_r1 (goodIn_app c_L_closes_r2 (goodIn_app c_L_closes_r3 (goodIn_app c_L_closes_r4 (goodIn_app c_L_closes_r5 (goodIn_app c_L_closes_r6 (goodIn_app c_L_closes_r7 (goodIn_app c_L_closes_r8 (goodIn_app c_L_closes_r9 (goodIn_app c_L_closes_r10 (goodIn_app c_L_closes_r11 (goodIn_app c_L_closes_r12 (goodIn_app c_L_closes_r13 (goodIn_app c_L_closes_r14 (goodIn_app c_L_closes_r15 (goodIn_app c_L_closes_r16 (goodIn_app c_L_closes_r17 (goodIn_app c_L_closes_r18 (goodIn_app c_L_closes_r19 (goodIn_app c_L_closes_r20 (goodIn_app c_L_closes_r21 (goodIn_app c_L_closes_r22 c_L_closes_r23)))))))))))))))))))))) c_L_closes_X11) c_L_closes_X0) c_L_closes_X3) c_L_closes_X10) c_L_closes_X2) c_L_closes_X7) c_L_closes_X9) c_L_closes_X6) c_L_closes_X1) c_L_closes_X8) c_L_closes_X5) c_L_closes_X4) c_L_closes_x319) c_L_closes_x316) c_L_closes_x322)
set_option maxRecDepth 20000 in
theorem gL_law_L_closes : GoodIn wsL_law (va_wsS RL 195 yL_closes wsL_closes) := goodIn_app (goodIn_of _ (by decide +kernel)) ggL_law_L_closes
