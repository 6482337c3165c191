set_option maxRecDepth 20000 in
theorem ggL_law_X11_clearText : GoodIn wsL_law wsX11_clearText := goodIn_r _ [1100, 24, 1173, 1174, 1175, 1204, 1205, 1206, 1207, 1208] (by decide +kernel) (by decide +kernel)
set_option maxRecDepth 20000 in
theorem gL_law_X11_clearText : GoodIn wsL_law (wsV RL 190 RX11 yX11_clearText wsX11_clearText) := goodIn_app (goodIn_of _ (by decide +kernel)) ggL_law_X11_clearText
set_option maxRecDepth 20000 in
theorem ggL_law_X12_clearText : GoodIn wsL_law wsX12_clearText := goodIn_r _ [1104, 251, 485, 1176, 1177, 1178, 1179, 1180, 1181, 1182, 1183, 1184, 1185, 1186, 1187] (by decide +kernel) (by decide +kernel)
set_option maxRecDepth 20000 in
theorem gL_law_X12_clearText : GoodIn wsL_law (wsV RL 193 RX12 yX12_clearText wsX12_clearText) := goodIn_app (goodIn_of _ (by decide +kernel)) ggL_law_X12_clearText
set_option maxRecDepth 20000 in
theorem ggL_law_X11_fault : GoodIn wsL_law wsX11_fault := goodIn_r _ [1108, 24, 16, 448, 449, 450, 23, 451, 452, 150, 151, 453, 454, 455, 456, 457, 149, 181, 2, 182, 458, 459, 460, 461, 462, 463, 464, 465, 1173, 1174, 1175, 1188, 1189, 1190, 1191, 1192, 1193, 1194, 1195, 1196, 1197, 1198, 1199, 1200, 1201, 1209, 1210, 1211, 1212, 1204, 1205, 1206, 1207, 1208] (by decide +kernel) (by decide +kernel)
set_option maxRecDepth 20000 in
theorem gL_law_X11_fault : GoodIn wsL_law (wsV RL 194 RX11 yX11_fault wsX11_fault) := goodIn_app (goodIn_of _ (by decide +kernel)) ggL_law_X11_fault
set_option maxRecDepth 20000 in
theorem ggL_law_X12_fault : GoodIn wsL_law wsX12_fault := goodIn_r _ [1112, 251, 480, 481, 482, 5, 483, 484, 479, 161, 485, 486, 487, 488, 489, 158, 252, 253, 254, 490, 491, 492, 493, 156, 1176, 1177, 1178, 1179, 1180, 1181, 1182, 1183, 1184, 1185, 1186, 1187] (by decide +kernel) (by decide +kernel)
set_option maxRecDepth 20000 in
theorem gL_law_X12_fault : GoodIn wsL_law (wsV RL 197 RX12 yX12_fault wsX12_fault) := goodIn_app (goodIn_of _ (by decide +kernel)) ggL_law_X12_fault
set_option maxRecDepth 20000 in
theorem ggL_law_L_undo : GoodIn wsL_law wsL_undo := goodIn_ca (goodIn_r _ [1115, 175, 1116, 1117, 1118, 2, 1119, 20, 16, 188, 189, 190, 191, 192, 1120, 1121, 1122, 19, 1123, 197, 144, 202, 203, 204, 15, 205, 29, 206, 30, 31, 35, 39, 42, 46, 50, 54, 58, 62, 63, 207, 208, 209, 34, 210, 211, 71, 72, 73, 128, 129, 130, 131, 132, 133, 134, 135, 136, 137, 212, 213, 214, 38, 215, 216, 77, 217, 218, 219, 220, 221, 45, 222, 82, 223, 224, 225, 49, 226, 90, 92, 227, 228, 229, 53, 230, 103, 104, 231, 97, 98, 232, 233, 234, 57, 235, 111, 236, 237, 238, 61, 239, 240, 241, 120, 122, 242, 1173, 1174, 1175, 1202, 1203, 1188, 1189, 1190, 1191, 1192, 1193, 1194, 1195, 1196, 1197, 1198, 1199, 1200, 1201, 1209, 1210, 1211, 1212, 1213, 1214, 1215, 1216, 1217, 1218, 1219, 1220, 1221, 1222, 1223, 1224, 1225, 1226, 1227] (by decide +kernel) (by decide +kernel)) (goodIn_sub (fun _ h => List.mem_append_left _ (List.mem_append_right _ h)) (by decide +kernel))
set_option maxRecDepth 20000 in
theorem gL_law_L_undo : GoodIn wsL_law (va_wsS RL 198 yL_undo wsL_undo) := goodIn_app (goodIn_of _ (by decide +kernel)) ggL_law_L_undo
