set_option maxRecDepth 20000 in
theorem ggL_law_X12_undo : GoodIn wsL_law wsX12_undo := goodIn_r _ [1127, 259, 251, 156, 157, 1176, 1177, 1178, 1179, 1180, 1181, 1182, 1183, 1184, 1185, 1186, 1187] (by decide +kernel) (by decide +kernel)
set_option maxRecDepth 20000 in
theorem gL_law_X12_undo : GoodIn wsL_law (wsV RL 200 RX12 yX12_undo wsX12_undo) := goodIn_app (goodIn_of _ (by decide +kernel)) ggL_law_X12_undo
set_option maxRecDepth 20000 in
theorem c_X11_checksum_0 : GoodIn wsL_law [Cond.code yX11_checksum cX11_checksum 4 (some .long)] := goodIn_r _ [1131] (by decide +kernel) (by decide +kernel)
set_option maxRecDepth 20000 in
theorem c_X11_checksum_r1 : GoodIn wsL_law wsX11_checksum_r1 := goodIn_r _ [1132, 16, 24, 20, 376, 377, 378, 15, 379, 50, 30, 31, 29, 206, 35, 39, 54, 62, 380, 381, 382, 38, 383, 216] (by decide +kernel) (by decide +kernel)
set_option maxRecDepth 20000 in
theorem c_X11_checksum_r2 : GoodIn wsL_law wsX11_checksum_r2 := goodIn_r _ [384, 385, 386, 387, 77, 388, 337, 338, 339, 389, 390, 391, 61, 392, 120, 1133, 1134, 2, 1135, 1136, 1137, 1138, 1139, 1140] (by decide +kernel) (by decide +kernel)
set_option maxRecDepth 20000 in
theorem c_X11_checksum_r3 : GoodIn wsL_law wsX11_checksum_r3 := goodIn_r _ [281, 282, 283, 34, 284, 285, 286, 287, 288, 71, 289, 273, 274, 275, 211, 290, 291, 292, 293, 72, 294, 295, 296, 297] (by decide +kernel) (by decide +kernel)
set_option maxRecDepth 20000 in
theorem c_X11_checksum_r4 : GoodIn wsL_law wsX11_checksum_r4 := goodIn_r _ [73, 1141, 1142, 1143, 1144, 1145, 1146, 1147, 1148, 985, 986, 987, 988, 595, 989, 943, 944, 53, 945, 103, 644, 645, 646, 647] (by decide +kernel) (by decide +kernel)
set_option maxRecDepth 20000 in
theorem c_X11_checksum_r5 : GoodIn wsL_law wsX11_checksum_r5 := goodIn_r _ [97, 800, 676, 677, 678, 98, 181, 182, 990, 688, 689, 690, 691, 680, 681, 682, 58, 692, 693, 694, 49, 695, 90, 696] (by decide +kernel) (by decide +kernel)
set_option maxRecDepth 20000 in
theorem c_X11_checksum_r6 : GoodIn wsL_law wsX11_checksum_r6 := goodIn_r _ [697, 698, 699, 700, 701, 702, 57, 703, 111, 704, 341, 342, 343, 92, 785, 786, 787, 788, 789, 790, 791, 792, 793, 559] (by decide +kernel) (by decide +kernel)
set_option maxRecDepth 20000 in
theorem c_X11_checksum_r7 : GoodIn wsL_law wsX11_checksum_r7 := goodIn_r _ [132, 560, 794, 795, 796, 797, 798, 131, 133, 799, 768, 769, 770, 771, 671, 672, 673, 674, 675, 764, 765, 766, 767, 667] (by decide +kernel) (by decide +kernel)
set_option maxRecDepth 20000 in
theorem c_X11_checksum_r8 : GoodIn wsL_law wsX11_checksum_r8 := goodIn_r _ [668, 669, 670, 864, 865, 866, 867, 868, 1149, 1150, 1151, 1152, 539, 540, 541, 45, 542, 543, 505, 506, 507, 508, 509, 510] (by decide +kernel) (by decide +kernel)
set_option maxRecDepth 20000 in
theorem c_X11_checksum_r9 : GoodIn wsL_law wsX11_checksum_r9 := goodIn_r _ [511, 82, 544, 545, 546, 547, 548, 549, 550, 551, 552, 553, 554, 555, 556, 557, 558, 561, 562, 563, 564, 565, 566, 567] (by decide +kernel) (by decide +kernel)
set_option maxRecDepth 20000 in
theorem c_X11_checksum_r10 : GoodIn wsL_law wsX11_checksum_r10 := goodIn_r _ [568, 569, 523, 1153, 1154, 1155, 1156, 340, 1006, 1026, 1157, 1062, 1063, 1064, 1065, 1066, 1067, 1068, 1069, 1070, 1071, 759, 1072, 1073] (by decide +kernel) (by decide +kernel)
set_option maxRecDepth 20000 in
theorem c_X11_checksum_X11 : GoodIn wsL_law wsX110 := goodIn_sub inlX11 (by decide +kernel)
set_option maxRecDepth 20000 in
theorem c_X11_checksum_X0 : GoodIn wsL_law wsX00 := goodIn_sub inlX0 (by decide +kernel)
set_option maxRecDepth 20000 in
theorem c_X11_checksum_X2 : GoodIn wsL_law wsX20 := goodIn_sub inlX2 (by decide +kernel)
set_option maxRecDepth 20000 in
theorem c_X11_checksum_X7 : GoodIn wsL_law wsX70 := goodIn_sub inlX7 (by decide +kernel)
set_option maxRecDepth 20000 in
theorem c_X11_checksum_X8 : GoodIn wsL_law wsX80 := goodIn_sub inlX8 (by decide +kernel)
set_option maxRecDepth 20000 in
theorem c_X11_checksum_X5 : GoodIn wsL_law wsX50 := goodIn_sub inlX5 (by decide +kernel)
set_option maxRecDepth 20000 in
theorem c_X11_checksum_X3 : GoodIn wsL_law wsX30 := goodIn_sub inlX3 (by decide +kernel)
set_option maxRecDepth 20000 in
theorem c_X11_checksum_X10 : GoodIn wsL_law wsX100 := goodIn_sub inlX10 (by decide +kernel)
set_option maxRecDepth 20000 in
theorem c_X11_checksum_X9 : GoodIn wsL_law wsX90 := goodIn_sub inlX9 (by decide +kernel)
set_option maxRecDepth 20000 in
theorem c_X11_checksum_X6 : GoodIn wsL_law wsX60 := goodIn_sub inlX6 (by decide +kernel)
set_option maxRecDepth 20000 in
theorem c_X11_checksum_X4 : GoodIn wsL_law wsX40 := goodIn_sub inlX4 (by decide +kernel)
theorem ggL_law_X11_checksum : GoodIn wsL_law wsX11_checksum := goodIn_app c_X11_checksum_0 (goodIn_app (goodIn_app (goodIn_app (goodIn_app (goodIn_app (goodIn_app (goodIn_app (goodIn_app (goodIn_app (goodIn_app (goodIn_app (goodIn_app c_X11_checksum_r1 (goodIn_app c_X11_checksum_r2 (goodIn_app c_X11_checksum_r3 (goodIn_app c_X11_checksum_r4 (goodIn_app c_X11_checksum_r5 (goodIn_app c_X11_checksum_r6 (goodIn_app c_X11_checksum_r7 (goodIn_app c_X11_checksum_r8 (goodIn_app c_X11_checksum_r9 c_X11_checksum_r10))))))))) c_X11_checksum_X11) c_X11_checksum_X0) c_X11_checksum_X2) c_X11_checksum_X7) c_X11_checksum_X8) c_X11_checksum_X5) c_X11_checksum_X3) c_X11_checksum_X10) c_X11_checksum_X9) c_X11_checksum_X6) c_X11_checksum_X4)
set_option maxRecDepth 20000 in
theorem gL_law_X11_checksum : GoodIn wsL_law (wsV RL 201 RX11 yX11_checksum wsX11_checksum) := goodIn_app (goodIn_of _ (by decide +kernel)) ggL_law_X11_checksum
set_option maxRecDepth 20000 in
theorem ggL_law_X12_checksum : GoodIn wsL_law wsX12_checksum := goodIn_r _ [1161, 251, 1162, 1163, 156, 485, 259, 970, 971, 972, 5, 973, 955, 956, 957, 958, 974, 975, 976, 977, 1164, 1165, 1166, 1167, 1168, 1169, 1170, 1171, 1172, 995, 996, 997, 998, 717, 718, 719, 720, 713, 714, 715, 716, 252, 253, 254, 729, 730, 731, 732, 733, 734, 735, 736, 360, 361, 362, 721, 722, 723, 724, 901, 902, 903, 904, 905, 906, 907, 908, 893, 894, 895, 896, 897, 898, 899, 900, 574, 575, 576, 577, 494, 495, 496, 528, 529, 530, 531, 578, 579, 580, 581, 1078, 1079, 1080, 1081, 1176, 1177, 1178, 1179, 1180, 1181, 1182, 1183, 1184, 1185, 1186, 1187] (by decide +kernel) (by decide +kernel)
set_option maxRecDepth 20000 in
theorem gL_law_X12_checksum : GoodIn wsL_law (wsV RL 205 RX12 yX12_checksum wsX12_checksum) := goodIn_app (goodIn_of _ (by decide +kernel)) ggL_law_X12_checksum
