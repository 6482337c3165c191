set_option maxRecDepth 20000 in
theorem cl_0 : GoodIn wsL_law [Cond.codeWith yL_close cL_close 3 (some .int) [(0, 8, 11, 15)]] := goodIn_r _ [750] (by decide +kernel) (by decide +kernel)
set_option maxRecDepth 20000 in
theorem cl_1 : GoodIn wsL_law wsL_close_r1 := goodIn_r _ [175, 751, 752, 753, 2, 754, 16, 20, 755, 756, 757, 15, 758, 29, 54, 759, 645, 646, 53, 647, 103, 97, 760, 761] (by decide +kernel) (by decide +kernel)
set_option maxRecDepth 20000 in
theorem cl_2 : GoodIn wsL_law wsL_close_r2 := goodIn_r _ [762, 763, 62, 50, 667, 668, 669, 61, 670, 120, 181, 182, 764, 765, 766, 49, 767, 90, 704, 341, 342, 343, 92, 700] (by decide +kernel) (by decide +kernel)
set_option maxRecDepth 20000 in
theorem cl_3 : GoodIn wsL_law wsL_close_r3 := goodIn_r _ [701, 702, 57, 703, 111, 768, 769, 770, 771, 58, 671, 672, 673, 674, 675, 676, 677, 678, 98, 188, 189, 190, 191, 192] (by decide +kernel) (by decide +kernel)
set_option maxRecDepth 20000 in
theorem cl_4 : GoodIn wsL_law wsL_close_r4 := goodIn_r _ [193, 194, 195, 19, 196, 197, 144, 198, 199, 200, 201, 202, 203, 204, 205, 206, 30, 31, 35, 39, 42, 46, 63, 207] (by decide +kernel) (by decide +kernel)
set_option maxRecDepth 20000 in
theorem cl_5 : GoodIn wsL_law wsL_close_r5 := goodIn_r _ [208, 209, 34, 210, 211, 71, 72, 73, 128, 129, 130, 131, 132, 133, 134, 135, 136, 137, 212, 213, 214, 38, 215, 216] (by decide +kernel) (by decide +kernel)
set_option maxRecDepth 20000 in
theorem cl_6 : GoodIn wsL_law wsL_close_r6 := goodIn_r _ [77, 217, 218, 219, 220, 221, 45, 222, 82, 223, 224, 225, 226, 227, 228, 229, 230, 104, 231, 232, 233, 234, 235, 236] (by decide +kernel) (by decide +kernel)
set_option maxRecDepth 20000 in
theorem cl_7 : GoodIn wsL_law wsL_close_r7 := goodIn_r _ [237, 238, 239, 240, 241, 122, 242, 772, 773, 774, 775, 67, 776, 777, 778, 779, 780, 781, 782, 66, 783, 127, 784, 84] (by decide +kernel) (by decide +kernel)
set_option maxRecDepth 20000 in
theorem cl_8 : GoodIn wsL_law wsL_close_r8 := goodIn_r _ [85, 86, 785, 786, 787, 788, 789, 790, 791, 792, 793, 559, 560, 794, 795, 796, 797, 798, 799, 800, 801, 802, 803, 804] (by decide +kernel) (by decide +kernel)
set_option maxRecDepth 20000 in
theorem cl_9 : GoodIn wsL_law wsL_close_r9 := goodIn_r _ [805, 806, 807, 808, 809, 810, 811, 812, 813, 814, 815, 816, 817, 818, 819, 820, 821, 822, 823, 824, 825, 826, 827, 828] (by decide +kernel) (by decide +kernel)
set_option maxRecDepth 20000 in
theorem cl_10 : GoodIn wsL_law wsL_close_r10 := goodIn_r _ [829, 830, 831, 832, 833, 834, 835, 836, 837, 601, 602, 603, 604, 388, 337, 338, 339, 838, 839, 840, 841, 842, 843, 844] (by decide +kernel) (by decide +kernel)
set_option maxRecDepth 20000 in
theorem cl_11 : GoodIn wsL_law wsL_close_r11 := goodIn_r _ [845, 846, 847, 848, 849, 850, 851, 852, 853, 854, 855, 113, 114, 115, 116, 856, 857, 858, 859, 860, 861, 862, 863, 864] (by decide +kernel) (by decide +kernel)
set_option maxRecDepth 20000 in
theorem cl_12 : GoodIn wsL_law wsL_close_r12 := goodIn_r _ [865, 866, 867, 868, 869, 870, 871, 872, 873, 874, 875, 876, 877, 878, 879, 880, 881, 882, 883, 884, 590, 591, 592, 593] (by decide +kernel) (by decide +kernel)
set_option maxRecDepth 20000 in
theorem cl_13 : GoodIn wsL_law wsL_close_r13 := goodIn_r _ [100, 101, 102, 105, 594, 595, 385, 386, 387, 596, 540, 541, 542, 543, 505, 506, 507, 508, 509, 510, 511, 544, 545, 546] (by decide +kernel) (by decide +kernel)
set_option maxRecDepth 20000 in
theorem cl_14 : GoodIn wsL_law wsL_close_r14 := goodIn_r _ [547, 548, 295, 296, 297, 289, 273, 274, 275, 549, 550, 551, 552, 553, 291, 292, 293, 554, 555, 556, 557, 558, 561, 286] (by decide +kernel) (by decide +kernel)
set_option maxRecDepth 20000 in
theorem cl_15 : GoodIn wsL_law wsL_close_r15 := goodIn_r _ [287, 288, 562, 563, 564, 565, 566, 567, 568, 569, 597, 598, 599, 600, 605, 606, 607, 608, 609, 610, 611, 612, 613, 614] (by decide +kernel) (by decide +kernel)
set_option maxRecDepth 20000 in
theorem cl_16 : GoodIn wsL_law wsL_close_r16 := goodIn_r _ [615, 616] (by decide +kernel) (by decide +kernel)
set_option maxRecDepth 20000 in
theorem clX_11 : GoodIn wsL_law wsX110 := goodIn_sub inlX11 (by decide +kernel)
set_option maxRecDepth 20000 in
theorem clX_0 : GoodIn wsL_law wsX00 := goodIn_sub inlX0 (by decide +kernel)
set_option maxRecDepth 20000 in
theorem clX_7 : GoodIn wsL_law wsX70 := goodIn_sub inlX7 (by decide +kernel)
set_option maxRecDepth 20000 in
theorem clX_9 : GoodIn wsL_law wsX90 := goodIn_sub inlX9 (by decide +kernel)
set_option maxRecDepth 20000 in
theorem clX_3 : GoodIn wsL_law wsX30 := goodIn_sub inlX3 (by decide +kernel)
set_option maxRecDepth 20000 in
theorem clX_6 : GoodIn wsL_law wsX60 := goodIn_sub inlX6 (by decide +kernel)
set_option maxRecDepth 20000 in
theorem clX_5 : GoodIn wsL_law wsX50 := goodIn_sub inlX5 (by decide +kernel)
set_option maxRecDepth 20000 in
theorem clX_10 : GoodIn wsL_law wsX100 := goodIn_sub inlX10 (by decide +kernel)
set_option maxRecDepth 20000 in
theorem clX_2 : GoodIn wsL_law wsX20 := goodIn_sub inlX2 (by decide +kernel)
set_option maxRecDepth 20000 in
theorem clX_4 : GoodIn wsL_law wsX40 := goodIn_sub inlX4 (by decide +kernel)
set_option maxRecDepth 20000 in
theorem clX_1 : GoodIn wsL_law wsX10 := goodIn_sub inlX1 (by decide +kernel)
set_option maxRecDepth 20000 in
theorem cl_vx : GoodIn wsL_law ((vx_at0 RX11 322 "java/lang/IllegalStateException" ["java/lang/RuntimeException", "java/lang/Exception"]).filter goodWord) := goodIn_sub (fun _ h => List.mem_append_left _ (List.mem_append_right _ h)) (by decide +kernel)
theorem ggL_law_L_close : GoodIn wsL_law wsL_close := goodIn_app cl_0 (goodIn_app (goodIn_app (goodIn_app (goodIn_app (goodIn_app (goodIn_app (goodIn_app (goodIn_app (goodIn_app (goodIn_app (goodIn_app (goodIn_app (goodIn_app cl_1 (goodIn_app cl_2 (goodIn_app cl_3 (goodIn_app cl_4 (goodIn_app cl_5 (goodIn_app cl_6 (goodIn_app cl_7 (goodIn_app cl_8 (goodIn_app cl_9 (goodIn_app cl_10 (goodIn_app cl_11 (goodIn_app cl_12 (goodIn_app cl_13 (goodIn_app cl_14 (goodIn_app cl_15 cl_16))))))))))))))) clX_11) clX_0) clX_7) clX_9) clX_3) clX_6) clX_5) clX_10) clX_2) clX_4) clX_1) cl_vx)
set_option maxRecDepth 20000 in
theorem gL_law_L_close : GoodIn wsL_law (va_wsS RL 155 yL_close wsL_close) := goodIn_app (goodIn_of _ (by decide +kernel)) ggL_law_L_close
