set_option maxRecDepth 20000 in
theorem ggL_law_X12_clearProgram : GoodIn wsL_law wsX12_clearProgram := goodIn_r _ [515, 251, 356, 357, 358, 5, 359, 156, 252, 253, 254, 420, 421, 422, 494, 495, 496, 363, 364, 365, 366, 255, 256, 257, 258, 259, 157, 1176, 1177, 1178, 1179, 1180, 1181, 1182, 1183, 1184, 1185, 1186, 1187] (by decide +kernel) (by decide +kernel)
set_option maxRecDepth 20000 in
theorem gL_law_X12_clearProgram : GoodIn wsL_law (wsV RL 135 RX12 yX12_clearProgram wsX12_clearProgram) := goodIn_app (goodIn_of _ (by decide +kernel)) ggL_law_X12_clearProgram
set_option maxRecDepth 20000 in
theorem ggL_law_L_program : GoodIn wsL_law wsL_program := goodIn_ca (goodIn_r _ [518, 267, 519, 520, 521, 2, 522, 16, 444, 445, 446, 447, 332, 333, 334, 335, 336, 337, 338, 38, 339, 216, 276, 277, 278, 279, 280, 413, 414, 415, 180, 181, 182, 523, 509, 510, 45, 511, 82, 1173, 1174, 1175, 1188, 1189, 1190, 1191, 1192, 1193, 1194, 1195, 1196, 1197, 1198, 1199, 1200, 1201, 1213, 1214, 1215] (by decide +kernel) (by decide +kernel)) (goodIn_sub (fun _ h => List.mem_append_right _ h) (by decide +kernel))
set_option maxRecDepth 20000 in
theorem gL_law_L_program : GoodIn wsL_law (va_wsS RL 136 yL_program wsL_program) := goodIn_app (goodIn_of _ (by decide +kernel)) ggL_law_L_program
set_option maxRecDepth 20000 in
theorem ggL_law_X12_program : GoodIn wsL_law wsX12_program := goodIn_r _ [527, 251, 356, 357, 358, 5, 359, 156, 252, 253, 254, 420, 421, 422, 528, 529, 530, 531, 494, 495, 496, 1176, 1177, 1178, 1179, 1180, 1181, 1182, 1183, 1184, 1185, 1186, 1187] (by decide +kernel) (by decide +kernel)
set_option maxRecDepth 20000 in
theorem gL_law_X12_program : GoodIn wsL_law (wsV RL 138 RX12 yX12_program wsX12_program) := goodIn_app (goodIn_of _ (by decide +kernel)) ggL_law_X12_program
set_option maxRecDepth 20000 in
theorem ggL_law_L_flaw : GoodIn wsL_law wsL_flaw := goodIn_ca (goodIn_r _ [534, 267, 535, 536, 537, 2, 538, 16, 444, 445, 446, 447, 332, 333, 334, 335, 336, 337, 338, 38, 339, 216, 276, 277, 278, 279, 280, 413, 414, 415, 180, 181, 182, 539, 540, 541, 45, 542, 543, 505, 506, 507, 508, 509, 510, 511, 82, 544, 545, 546, 547, 548, 295, 296, 34, 297, 73, 289, 273, 274, 275, 211, 549, 550, 551, 552, 553, 291, 292, 293, 72, 554, 555, 556, 557, 558, 559, 132, 560, 561, 286, 287, 288, 71, 562, 563, 564, 565, 566, 567, 568, 569, 1173, 1174, 1175, 1188, 1189, 1190, 1191, 1192, 1193, 1194, 1195, 1196, 1197, 1198, 1199, 1200, 1201, 1213, 1214, 1215, 1209, 1210, 1211, 1212] (by decide +kernel) (by decide +kernel)) (goodIn_sub (fun _ h => List.mem_append_right _ h) (by decide +kernel))
set_option maxRecDepth 20000 in
theorem gL_law_L_flaw : GoodIn wsL_law (va_wsS RL 139 yL_flaw wsL_flaw) := goodIn_app (goodIn_of _ (by decide +kernel)) ggL_law_L_flaw
set_option maxRecDepth 20000 in
theorem ggL_law_X12_flaw : GoodIn wsL_law wsX12_flaw := goodIn_r _ [573, 251, 356, 357, 358, 5, 359, 156, 252, 253, 254, 420, 421, 422, 574, 575, 576, 577, 494, 495, 496, 528, 529, 530, 531, 578, 579, 580, 581, 1176, 1177, 1178, 1179, 1180, 1181, 1182, 1183, 1184, 1185, 1186, 1187] (by decide +kernel) (by decide +kernel)
set_option maxRecDepth 20000 in
theorem gL_law_X12_flaw : GoodIn wsL_law (wsV RL 141 RX12 yX12_flaw wsX12_flaw) := goodIn_app (goodIn_of _ (by decide +kernel)) ggL_law_X12_flaw
