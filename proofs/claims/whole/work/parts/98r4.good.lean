set_option maxRecDepth 20000 in
theorem ggL_law_X12_entrant : GoodIn wsL_law wsX12_entrant := goodIn_r _ [994, 251, 356, 357, 358, 5, 359, 156, 252, 253, 254, 995, 996, 997, 998, 717, 718, 719, 720, 713, 714, 715, 716, 729, 730, 731, 732, 733, 734, 735, 736, 360, 361, 362, 721, 722, 723, 724, 901, 902, 903, 904, 905, 906, 907, 908, 893, 894, 895, 896, 897, 898, 899, 900, 1176, 1177, 1178, 1179, 1180, 1181, 1182, 1183, 1184, 1185, 1186, 1187] (by decide +kernel) (by decide +kernel)
set_option maxRecDepth 20000 in
theorem gL_law_X12_entrant : GoodIn wsL_law (wsV RL 166 RX12 yX12_entrant wsX12_entrant) := goodIn_app (goodIn_of _ (by decide +kernel)) ggL_law_X12_entrant
set_option maxRecDepth 20000 in
theorem ggL_law_L_marked : GoodIn wsL_law wsL_marked := goodIn_ca (goodIn_r _ [1001, 267, 1002, 1003, 1004, 2, 1005, 16, 324, 325, 326, 327, 328, 329, 330, 49, 331, 90, 276, 277, 278, 279, 280, 332, 333, 334, 335, 336, 337, 338, 38, 339, 216, 1006, 701, 702, 57, 703, 111, 1173, 1174, 1175, 1188, 1189, 1190, 1191, 1192, 1193, 1194, 1195, 1196, 1197, 1198, 1199, 1200, 1201, 1224, 1225, 1226, 1227, 1216, 1217, 1213, 1214, 1223] (by decide +kernel) (by decide +kernel)) (goodIn_sub (fun _ h => List.mem_append_right _ h) (by decide +kernel))
set_option maxRecDepth 20000 in
theorem gL_law_L_marked : GoodIn wsL_law (va_wsS RL 167 yL_marked wsL_marked) := goodIn_app (goodIn_of _ (by decide +kernel)) ggL_law_L_marked
set_option maxRecDepth 20000 in
theorem ggL_law_X12_marked : GoodIn wsL_law wsX12_marked := goodIn_r _ [1010, 251, 156, 352, 353, 354, 5, 355, 252, 253, 254, 356, 357, 358, 359, 360, 361, 362, 1176, 1177, 1178, 1179, 1180, 1181, 1182, 1183, 1184, 1185, 1186, 1187] (by decide +kernel) (by decide +kernel)
set_option maxRecDepth 20000 in
theorem gL_law_X12_marked : GoodIn wsL_law (wsV RL 169 RX12 yX12_marked wsX12_marked) := goodIn_app (goodIn_of _ (by decide +kernel)) ggL_law_X12_marked
set_option maxRecDepth 20000 in
theorem ggL_law_L_history : GoodIn wsL_law wsL_history := goodIn_ca (goodIn_r _ [1013, 267, 1014, 1015, 1016, 2, 1017, 16, 444, 445, 446, 447, 332, 333, 334, 335, 336, 337, 338, 38, 339, 216, 276, 277, 278, 279, 280, 413, 414, 415, 180, 181, 182, 1173, 1174, 1175, 1188, 1189, 1190, 1191, 1192, 1193, 1194, 1195, 1196, 1197, 1198, 1199, 1200, 1201, 1213, 1214] (by decide +kernel) (by decide +kernel)) (goodIn_sub (fun _ h => List.mem_append_right _ h) (by decide +kernel))
set_option maxRecDepth 20000 in
theorem gL_law_L_history : GoodIn wsL_law (va_wsS RL 170 yL_history wsL_history) := goodIn_app (goodIn_of _ (by decide +kernel)) ggL_law_L_history
set_option maxRecDepth 20000 in
theorem ggL_law_X12_history : GoodIn wsL_law wsX12_history := goodIn_r _ [1021, 251, 156, 356, 357, 358, 5, 359, 252, 253, 254, 420, 421, 422, 1176, 1177, 1178, 1179, 1180, 1181, 1182, 1183, 1184, 1185, 1186, 1187] (by decide +kernel) (by decide +kernel)
set_option maxRecDepth 20000 in
theorem gL_law_X12_history : GoodIn wsL_law (wsV RL 172 RX12 yX12_history wsX12_history) := goodIn_app (goodIn_of _ (by decide +kernel)) ggL_law_X12_history
set_option maxRecDepth 20000 in
theorem ggL_law_X11_stage : GoodIn wsL_law wsX11_stage := goodIn_r _ [1025, 16, 1026, 645, 646, 53, 647, 103, 97, 1173, 1174, 1175, 1188, 1189, 1190, 1191, 1192, 1193, 1194, 1195, 1196, 1197, 1198, 1199, 1200, 1201, 1218, 1219, 1220, 1221, 1222] (by decide +kernel) (by decide +kernel)
set_option maxRecDepth 20000 in
theorem gL_law_X11_stage : GoodIn wsL_law (wsV RL 173 RX11 yX11_stage wsX11_stage) := goodIn_app (goodIn_of _ (by decide +kernel)) ggL_law_X11_stage
set_option maxRecDepth 20000 in
theorem ggL_law_X12_stage : GoodIn wsL_law wsX12_stage := goodIn_r _ [1030, 251, 156, 252, 253, 5, 254, 1176, 1177, 1178, 1179, 1180, 1181, 1182, 1183, 1184, 1185, 1186, 1187] (by decide +kernel) (by decide +kernel)
set_option maxRecDepth 20000 in
theorem gL_law_X12_stage : GoodIn wsL_law (wsV RL 176 RX12 yX12_stage wsX12_stage) := goodIn_app (goodIn_of _ (by decide +kernel)) ggL_law_X12_stage
set_option maxRecDepth 20000 in
theorem ggL_law_L_wouldBe : GoodIn wsL_law wsL_wouldBe := goodIn_ca (goodIn_r _ [1033, 174, 1034, 1035, 1036, 2, 1037, 16, 180, 181, 182, 183, 184, 185, 186, 187, 755, 756, 757, 15, 758, 29, 54, 759, 645, 646, 53, 647, 103, 97, 760, 761, 762, 763, 62, 50, 667, 668, 669, 61, 670, 120, 764, 765, 766, 49, 767, 90, 704, 341, 342, 343, 92, 700, 701, 702, 57, 703, 111, 768, 769, 770, 771, 58, 671, 672, 673, 674, 675, 676, 677, 678, 98, 1038, 777, 778, 779, 67, 206, 42, 780, 781, 782, 66, 783, 127, 784, 84, 85, 86, 785, 786, 787, 788, 789, 790, 791, 792, 793, 559, 132, 560, 31, 794, 795, 796, 797, 798, 131, 133, 799, 800, 801, 802, 803, 804, 805, 806, 807, 808, 809, 810, 811, 812, 813, 814, 815, 816, 817, 818, 819, 820, 821, 1039, 1040, 1041, 1042, 854, 839, 840, 841, 1173, 1174, 1175, 1188, 1189, 1190, 1191, 1192, 1193, 1194, 1195, 1196, 1197, 1198, 1199, 1200, 1201, 1218, 1219, 1220, 1221, 1222, 1224, 1225, 1226, 1227, 1216, 1217, 1223, 1228, 1229, 1230, 1231, 1232, 1233] (by decide +kernel) (by decide +kernel)) (goodIn_sub (fun _ h => List.mem_append_left _ (List.mem_append_left _ (List.mem_append_right _ h))) (by decide +kernel))
set_option maxRecDepth 20000 in
theorem gL_law_L_wouldBe : GoodIn wsL_law (va_wsS RL 177 yL_wouldBe wsL_wouldBe) := goodIn_app (goodIn_of _ (by decide +kernel)) ggL_law_L_wouldBe
set_option maxRecDepth 20000 in
theorem ggL_law_X12_wouldBe : GoodIn wsL_law wsX12_wouldBe := goodIn_r _ [1046, 251, 156, 160, 252, 253, 5, 254, 889, 890, 891, 892, 717, 718, 719, 720, 893, 894, 895, 896, 713, 714, 715, 716, 897, 898, 899, 900, 729, 730, 731, 732, 733, 734, 735, 736, 360, 361, 362, 721, 722, 723, 724, 909, 910, 911, 912, 159, 913, 914, 915, 916, 917, 918, 919, 920, 901, 902, 903, 904, 905, 906, 907, 908, 1176, 1177, 1178, 1179, 1180, 1181, 1182, 1183, 1184, 1185, 1186, 1187] (by decide +kernel) (by decide +kernel)
set_option maxRecDepth 20000 in
theorem gL_law_X12_wouldBe : GoodIn wsL_law (wsV RL 179 RX12 yX12_wouldBe wsX12_wouldBe) := goodIn_app (goodIn_of _ (by decide +kernel)) ggL_law_X12_wouldBe
set_option maxRecDepth 20000 in
theorem ggL_law_L_neededMark : GoodIn wsL_law wsL_neededMark := goodIn_ca (goodIn_ca (goodIn_ca (goodIn_r _ [1049, 267, 174, 175, 1050, 1051, 1052, 2, 1053, 1054, 16, 324, 325, 326, 327, 328, 329, 330, 49, 331, 90, 276, 277, 278, 279, 280, 332, 333, 334, 335, 336, 337, 338, 38, 339, 216, 180, 181, 182, 183, 184, 185, 186, 187, 188, 189, 190, 191, 192, 933, 672, 673, 53, 674, 675, 676, 677, 678, 98, 340, 341, 342, 343, 92, 1055, 790, 791, 15, 792, 50, 58, 54, 793, 559, 132, 560, 31, 794, 795, 796, 797, 798, 131, 133, 799, 700, 701, 702, 57, 703, 111, 704, 800, 1173, 1174, 1175, 1188, 1189, 1190, 1191, 1192, 1193, 1194, 1195, 1196, 1197, 1198, 1199, 1200, 1201, 1216, 1217, 1213, 1214, 1218, 1219, 1220, 1221, 1222, 1223] (by decide +kernel) (by decide +kernel)) (goodIn_sub (fun _ h => List.mem_append_right _ h) (by decide +kernel))) (goodIn_sub (fun _ h => List.mem_append_left _ (List.mem_append_left _ (List.mem_append_right _ h))) (by decide +kernel))) (goodIn_sub (fun _ h => List.mem_append_left _ (List.mem_append_right _ h)) (by decide +kernel))
set_option maxRecDepth 20000 in
theorem gL_law_L_neededMark : GoodIn wsL_law (va_wsS RL 180 yL_neededMark wsL_neededMark) := goodIn_app (goodIn_of _ (by decide +kernel)) ggL_law_L_neededMark
set_option maxRecDepth 20000 in
theorem ggL_law_X12_neededMark : GoodIn wsL_law wsX12_neededMark := goodIn_r _ [1059, 1060, 156, 251, 352, 353, 354, 5, 355, 252, 253, 254, 356, 357, 358, 359, 709, 710, 711, 712, 713, 714, 715, 716, 717, 718, 719, 720, 721, 722, 723, 724, 360, 361, 362, 901, 902, 903, 904, 905, 906, 907, 908, 733, 734, 735, 736, 1176, 1177, 1178, 1179, 1180, 1181, 1182, 1183, 1184, 1185, 1186, 1187] (by decide +kernel) (by decide +kernel)
set_option maxRecDepth 20000 in
theorem gL_law_X12_neededMark : GoodIn wsL_law (wsV RL 182 RX12 yX12_neededMark wsX12_neededMark) := goodIn_app (goodIn_of _ (by decide +kernel)) ggL_law_X12_neededMark
set_option maxRecDepth 20000 in
theorem ggL_law_X11_strangestJuror : GoodIn wsL_law wsX11_strangestJuror := goodIn_r _ [1064, 16, 1065, 1066, 1067, 15, 1068, 54, 50, 58, 1069, 1070, 132, 1071, 793, 559, 560, 759, 645, 646, 53, 647, 103, 97, 794, 795, 796, 49, 797, 90, 798, 131, 133, 799, 700, 701, 702, 57, 703, 111, 704, 341, 342, 343, 92, 1072, 697, 698, 699, 1073, 1173, 1174, 1175, 1188, 1189, 1190, 1191, 1192, 1193, 1194, 1195, 1196, 1197, 1198, 1199, 1200, 1201, 1216, 1217, 1218, 1219, 1220, 1221, 1222, 1223] (by decide +kernel) (by decide +kernel)
set_option maxRecDepth 20000 in
theorem gL_law_X11_strangestJuror : GoodIn wsL_law (wsV RL 183 RX11 yX11_strangestJuror wsX11_strangestJuror) := goodIn_app (goodIn_of _ (by decide +kernel)) ggL_law_X11_strangestJuror
set_option maxRecDepth 20000 in
theorem ggL_law_X12_strangestJuror : GoodIn wsL_law wsX12_strangestJuror := goodIn_r _ [1077, 251, 1078, 1079, 1080, 5, 1081, 156, 905, 906, 907, 908, 733, 734, 735, 736, 360, 361, 362, 721, 722, 723, 724, 1176, 1177, 1178, 1179, 1180, 1181, 1182, 1183, 1184, 1185, 1186, 1187] (by decide +kernel) (by decide +kernel)
set_option maxRecDepth 20000 in
theorem gL_law_X12_strangestJuror : GoodIn wsL_law (wsV RL 186 RX12 yX12_strangestJuror wsX12_strangestJuror) := goodIn_app (goodIn_of _ (by decide +kernel)) ggL_law_X12_strangestJuror
set_option maxRecDepth 20000 in
theorem ggL_law_L_type : GoodIn wsL_law wsL_type := goodIn_ca (goodIn_ca (goodIn_r _ [1084, 174, 175, 1085, 1086, 1087, 2, 1088, 24, 180, 181, 182, 183, 184, 185, 186, 187, 188, 189, 190, 191, 192, 1089, 1090, 1091, 23, 1092, 457, 149, 1173, 1174, 1175, 1204, 1205, 1206, 1207, 1208] (by decide +kernel) (by decide +kernel)) (goodIn_sub (fun _ h => List.mem_append_left _ (List.mem_append_left _ (List.mem_append_right _ h))) (by decide +kernel))) (goodIn_sub (fun _ h => List.mem_append_left _ (List.mem_append_right _ h)) (by decide +kernel))
set_option maxRecDepth 20000 in
theorem gL_law_L_type : GoodIn wsL_law (va_wsS RL 187 yL_type wsL_type) := goodIn_app (goodIn_of _ (by decide +kernel)) ggL_law_L_type
set_option maxRecDepth 20000 in
theorem ggL_law_X12_type : GoodIn wsL_law wsX12_type := goodIn_r _ [1096, 485, 251, 158, 252, 253, 5, 254, 1176, 1177, 1178, 1179, 1180, 1181, 1182, 1183, 1184, 1185, 1186, 1187] (by decide +kernel) (by decide +kernel)
set_option maxRecDepth 20000 in
theorem gL_law_X12_type : GoodIn wsL_law (wsV RL 189 RX12 yX12_type wsX12_type) := goodIn_app (goodIn_of _ (by decide +kernel)) ggL_law_X12_type
set_option maxRecDepth 20000 in
theorem ggL_law_X11_clearText : GoodIn wsL_law wsX11_clearText := goodIn_r _ [1100, 24, 1173, 1174, 1175, 1204, 1205, 1206, 1207, 1208] (by decide +kernel) (by decide +kernel)
set_option maxRecDepth 20000 in
theorem gL_law_X11_clearText : GoodIn wsL_law (wsV RL 190 RX11 yX11_clearText wsX11_clearText) := goodIn_app (goodIn_of _ (by decide +kernel)) ggL_law_X11_clearText
set_option maxRecDepth 20000 in
theorem ggL_law_X12_clearText : GoodIn wsL_law wsX12_clearText := goodIn_r _ [1104, 251, 485, 1176, 1177, 1178, 1179, 1180, 1181, 1182, 1183, 1184, 1185, 1186, 1187] (by decide +kernel) (by decide +kernel)
set_option maxRecDepth 20000 in
theorem gL_law_X12_clearText : GoodIn wsL_law (wsV RL 193 RX12 yX12_clearText wsX12_clearText) := goodIn_app (goodIn_of _ (by decide +kernel)) ggL_law_X12_clearText
set_option maxRecDepth 20000 in
theorem ggL_law_X11_fault : GoodIn wsL_law wsX11_fault := goodIn_r _ [1108, 24, 16, 448, 449, 450, 23, 451, 452, 150, 151, 453, 454, 455, 456, 457, 149, 181, 2, 182, 458, 459, 460, 461, 462, 463, 464, 465, 1173, 1174, 1175, 1188, 1189, 1190, 1191, 1192, 1193, 1194, 1195, 1196, 1197, 1198, 1199, 1200, 1201, 1209, 1210, 1211, 1212, 1204, 1205, 1206, 1207, 1208] (by decide +kernel) (by decide +kernel)
set_option maxRecDepth 20000 in
theorem gL_law_X11_fault : GoodIn wsL_law (wsV RL 194 RX11 yX11_fault wsX11_fault) := goodIn_app (goodIn_of _ (by decide +kernel)) ggL_law_X11_fault
set_option maxRecDepth 20000 in
theorem ggL_law_X12_fault : GoodIn wsL_law wsX12_fault := goodIn_r _ [1112, 251, 480, 481, 482, 5, 483, 484, 479, 161, 485, 486, 487, 488, 489, 158, 252, 253, 254, 490, 491, 492, 493, 156, 1176, 1177, 1178, 1179, 1180, 1181, 1182, 1183, 1184, 1185, 1186, 1187] (by decide +kernel) (by decide +kernel)
set_option maxRecDepth 20000 in
theorem gL_law_X12_fault : GoodIn wsL_law (wsV RL 197 RX12 yX12_fault wsX12_fault) := goodIn_app (goodIn_of _ (by decide +kernel)) ggL_law_X12_fault
set_option maxRecDepth 20000 in
theorem ggL_law_L_undo : GoodIn wsL_law wsL_undo := goodIn_ca (goodIn_r _ [1115, 175, 1116, 1117, 1118, 2, 1119, 20, 16, 188, 189, 190, 191, 192, 1120, 1121, 1122, 19, 1123, 197, 144, 202, 203, 204, 15, 205, 29, 206, 30, 31, 35, 39, 42, 46, 50, 54, 58, 62, 63, 207, 208, 209, 34, 210, 211, 71, 72, 73, 128, 129, 130, 131, 132, 133, 134, 135, 136, 137, 212, 213, 214, 38, 215, 216, 77, 217, 218, 219, 220, 221, 45, 222, 82, 223, 224, 225, 49, 226, 90, 92, 227, 228, 229, 53, 230, 103, 104, 231, 97, 98, 232, 233, 234, 57, 235, 111, 236, 237, 238, 61, 239, 240, 241, 120, 122, 242, 1173, 1174, 1175, 1202, 1203, 1188, 1189, 1190, 1191, 1192, 1193, 1194, 1195, 1196, 1197, 1198, 1199, 1200, 1201, 1209, 1210, 1211, 1212, 1213, 1214, 1215, 1216, 1217, 1218, 1219, 1220, 1221, 1222, 1223, 1224, 1225, 1226, 1227] (by decide +kernel) (by decide +kernel)) (goodIn_sub (fun _ h => List.mem_append_left _ (List.mem_append_right _ h)) (by decide +kernel))
set_option maxRecDepth 20000 in
theorem gL_law_L_undo : GoodIn wsL_law (va_wsS RL 198 yL_undo wsL_undo) := goodIn_app (goodIn_of _ (by decide +kernel)) ggL_law_L_undo
