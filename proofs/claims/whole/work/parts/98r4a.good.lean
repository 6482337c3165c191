set_option maxRecDepth 20000 in
theorem ggL_law_X12_entrant : GoodIn wsL_law wsX12_entrant := goodIn_r _ [994, 251, 356, 357, 358, 5, 359, 156, 252, 253, 254, 995, 996, 997, 998, 717, 718, 719, 720, 713, 714, 715, 716, 729, 730, 731, 732, 733, 734, 735, 736, 360, 361, 362, 721, 722, 723, 724, 901, 902, 903, 904, 905, 906, 907, 908, 893, 894, 895, 896, 897, 898, 899, 900, 1176, 1177, 1178, 1179, 1180, 1181, 1182, 1183, 1184, 1185, 1186, 1187] (by decide +kernel) (by decide +kernel)
set_option maxRecDepth 20000 in
theorem gL_law_X12_entrant : GoodIn wsL_law (wsV RL 166 RX12 yX12_entrant wsX12_entrant) := goodIn_app (goodIn_of _ (by decide +kernel)) ggL_law_X12_entrant
set_option maxRecDepth 20000 in
theorem ggL_law_L_marked : GoodIn wsL_law wsL_marked := goodIn_ca (goodIn_r _ [1001, 267, 1002, 1003, 1004, 2, 1005, 16, 324, 325, 326, 327, 328, 329, 330, 49, 331, 90, 276, 277, 278, 279, 280, 332, 333, 334, 335, 336, 337, 338, 38, 339, 216, 1006, 701, 702, 57, 703, 111, 1173, 1174, 1175, 1188, 1189, 1190, 1191, 1192, 1193, 1194, 1195, 1196, 1197, 1198, 1199, 1200, 1201, 1224, 1225, 1226, 1227, 1216, 1217, 1213, 1214, 1223] (by decide +kernel) (by decide +kernel)) (goodIn_sub (fun _ h => List.mem_append_right _ h) (by decide +kernel))
set_option maxRecDepth 20000 in
theorem gL_law_L_marked : GoodIn wsL_law (va_wsS RL 167 yL_marked wsL_marked) := goodIn_app (goodIn_of _ (by decide +kernel)) ggL_law_L_marked
set_option maxRecDepth 20000 in
theorem ggL_law_X12_marked : GoodIn wsL_law wsX12_marked := goodIn_r _ [1010, 251, 156, 352, 353, 354, 5, 355, 252, 253, 254, 356, 357, 358, 359, 360, 361, 362, 1176, 1177, 1178, 1179, 1180, 1181, 1182, 1183, 1184, 1185, 1186, 1187] (by decide +kernel) (by decide +kernel)
set_option maxRecDepth 20000 in
theorem gL_law_X12_marked : GoodIn wsL_law (wsV RL 169 RX12 yX12_marked wsX12_marked) := goodIn_app (goodIn_of _ (by decide +kernel)) ggL_law_X12_marked
set_option maxRecDepth 20000 in
theorem ggL_law_L_history : GoodIn wsL_law wsL_history := goodIn_ca (goodIn_r _ [1013, 267, 1014, 1015, 1016, 2, 1017, 16, 444, 445, 446, 447, 332, 333, 334, 335, 336, 337, 338, 38, 339, 216, 276, 277, 278, 279, 280, 413, 414, 415, 180, 181, 182, 1173, 1174, 1175, 1188, 1189, 1190, 1191, 1192, 1193, 1194, 1195, 1196, 1197, 1198, 1199, 1200, 1201, 1213, 1214] (by decide +kernel) (by decide +kernel)) (goodIn_sub (fun _ h => List.mem_append_right _ h) (by decide +kernel))
set_option maxRecDepth 20000 in
theorem gL_law_L_history : GoodIn wsL_law (va_wsS RL 170 yL_history wsL_history) := goodIn_app (goodIn_of _ (by decide +kernel)) ggL_law_L_history
set_option maxRecDepth 20000 in
theorem ggL_law_X12_history : GoodIn wsL_law wsX12_history := goodIn_r _ [1021, 251, 156, 356, 357, 358, 5, 359, 252, 253, 254, 420, 421, 422, 1176, 1177, 1178, 1179, 1180, 1181, 1182, 1183, 1184, 1185, 1186, 1187] (by decide +kernel) (by decide +kernel)
set_option maxRecDepth 20000 in
theorem gL_law_X12_history : GoodIn wsL_law (wsV RL 172 RX12 yX12_history wsX12_history) := goodIn_app (goodIn_of _ (by decide +kernel)) ggL_law_X12_history
