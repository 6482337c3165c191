set_option maxRecDepth 20000 in
theorem ggL_law_X12_neededMark : GoodIn wsL_law wsX12_neededMark := goodIn_r _ [1059, 1060, 156, 251, 352, 353, 354, 5, 355, 252, 253, 254, 356, 357, 358, 359, 709, 710, 711, 712, 713, 714, 715, 716, 717, 718, 719, 720, 721, 722, 723, 724, 360, 361, 362, 901, 902, 903, 904, 905, 906, 907, 908, 733, 734, 735, 736, 1176, 1177, 1178, 1179, 1180, 1181, 1182, 1183, 1184, 1185, 1186, 1187] (by decide +kernel) (by decide +kernel)
set_option maxRecDepth 20000 in
theorem gL_law_X12_neededMark : GoodIn wsL_law (wsV RL 182 RX12 yX12_neededMark wsX12_neededMark) := goodIn_app (goodIn_of _ (by decide +kernel)) ggL_law_X12_neededMark
set_option maxRecDepth 20000 in
theorem ggL_law_X11_strangestJuror : GoodIn wsL_law wsX11_strangestJuror := goodIn_r _ [1064, 16, 1065, 1066, 1067, 15, 1068, 54, 50, 58, 1069, 1070, 132, 1071, 793, 559, 560, 759, 645, 646, 53, 647, 103, 97, 794, 795, 796, 49, 797, 90, 798, 131, 133, 799, 700, 701, 702, 57, 703, 111, 704, 341, 342, 343, 92, 1072, 697, 698, 699, 1073, 1173, 1174, 1175, 1188, 1189, 1190, 1191, 1192, 1193, 1194, 1195, 1196, 1197, 1198, 1199, 1200, 1201, 1216, 1217, 1218, 1219, 1220, 1221, 1222, 1223] (by decide +kernel) (by decide +kernel)
set_option maxRecDepth 20000 in
theorem gL_law_X11_strangestJuror : GoodIn wsL_law (wsV RL 183 RX11 yX11_strangestJuror wsX11_strangestJuror) := goodIn_app (goodIn_of _ (by decide +kernel)) ggL_law_X11_strangestJuror
set_option maxRecDepth 20000 in
theorem ggL_law_X12_strangestJuror : GoodIn wsL_law wsX12_strangestJuror := goodIn_r _ [1077, 251, 1078, 1079, 1080, 5, 1081, 156, 905, 906, 907, 908, 733, 734, 735, 736, 360, 361, 362, 721, 722, 723, 724, 1176, 1177, 1178, 1179, 1180, 1181, 1182, 1183, 1184, 1185, 1186, 1187] (by decide +kernel) (by decide +kernel)
set_option maxRecDepth 20000 in
theorem gL_law_X12_strangestJuror : GoodIn wsL_law (wsV RL 186 RX12 yX12_strangestJuror wsX12_strangestJuror) := goodIn_app (goodIn_of _ (by decide +kernel)) ggL_law_X12_strangestJuror
set_option maxRecDepth 20000 in
theorem ggL_law_L_type : GoodIn wsL_law wsL_type := goodIn_ca (goodIn_ca (goodIn_r _ [1084, 174, 175, 1085, 1086, 1087, 2, 1088, 24, 180, 181, 182, 183, 184, 185, 186, 187, 188, 189, 190, 191, 192, 1089, 1090, 1091, 23, 1092, 457, 149, 1173, 1174, 1175, 1204, 1205, 1206, 1207, 1208] (by decide +kernel) (by decide +kernel)) (goodIn_sub (fun _ h => List.mem_append_left _ (List.mem_append_left _ (List.mem_append_right _ h))) (by decide +kernel))) (goodIn_sub (fun _ h => List.mem_append_left _ (List.mem_append_right _ h)) (by decide +kernel))
set_option maxRecDepth 20000 in
theorem gL_law_L_type : GoodIn wsL_law (va_wsS RL 187 yL_type wsL_type) := goodIn_app (goodIn_of _ (by decide +kernel)) ggL_law_L_type
set_option maxRecDepth 20000 in
theorem ggL_law_X12_type : GoodIn wsL_law wsX12_type := goodIn_r _ [1096, 485, 251, 158, 252, 253, 5, 254, 1176, 1177, 1178, 1179, 1180, 1181, 1182, 1183, 1184, 1185, 1186, 1187] (by decide +kernel) (by decide +kernel)
set_option maxRecDepth 20000 in
theorem gL_law_X12_type : GoodIn wsL_law (wsV RL 189 RX12 yX12_type wsX12_type) := goodIn_app (goodIn_of _ (by decide +kernel)) ggL_law_X12_type
