set_option maxRecDepth 20000 in
theorem ggL_law_L_info : GoodIn wsL_law wsL_info := goodIn_ca (goodIn_r _ [364, 365, 366, 367, 368, 2, 369, 14, 370, 235, 236, 371, 372, 373, 374, 375, 159, 160, 161, 13, 162, 48, 28, 29, 27, 163, 33, 37, 52, 60, 164, 165, 166, 36, 167, 168, 169, 170, 171, 172, 75, 173, 174, 175, 176, 177, 178, 179, 59, 180, 118, 877, 878, 879, 880, 881, 882, 883, 884, 885, 886, 887, 888, 889, 890, 891, 892, 893, 908, 909, 901, 902, 903, 904, 905, 906, 910, 911, 912, 913, 914, 916, 917, 918, 919] (by decide +kernel) (by decide +kernel)) (goodIn_sub (fun _ h => List.mem_append_left _ (List.mem_append_left _ (List.mem_append_right _ h))) (by decide +kernel))
set_option maxRecDepth 20000 in
theorem gL_law_L_info : GoodIn wsL_law (va_wsS RL 98 yL_info wsL_info) := goodIn_app (goodIn_of _ (by decide +kernel)) ggL_law_L_info
set_option maxRecDepth 20000 in
theorem ggL_law_X11_clearText : GoodIn wsL_law wsX11_clearText := goodIn_r _ [863, 22, 877, 878, 879, 896, 897, 898, 899, 900] (by decide +kernel) (by decide +kernel)
set_option maxRecDepth 20000 in
theorem gL_law_X11_clearText : GoodIn wsL_law (wsV RL 181 RX11 yX11_clearText wsX11_clearText) := goodIn_app (goodIn_of _ (by decide +kernel)) ggL_law_X11_clearText
set_option maxRecDepth 20000 in
theorem ggL_law_L_type : GoodIn wsL_law wsL_type := goodIn_ca (goodIn_ca (goodIn_r _ [747, 365, 379, 748, 749, 750, 2, 751, 22, 370, 235, 236, 371, 372, 373, 374, 375, 384, 385, 386, 387, 388, 752, 753, 754, 21, 755, 530, 147, 877, 878, 879, 896, 897, 898, 899, 900] (by decide +kernel) (by decide +kernel)) (goodIn_sub (fun _ h => List.mem_append_left _ (List.mem_append_left _ (List.mem_append_right _ h))) (by decide +kernel))) (goodIn_sub (fun _ h => List.mem_append_left _ (List.mem_append_right _ h)) (by decide +kernel))
set_option maxRecDepth 20000 in
theorem gL_law_L_type : GoodIn wsL_law (va_wsS RL 159 yL_type wsL_type) := goodIn_app (goodIn_of _ (by decide +kernel)) ggL_law_L_type
set_option maxRecDepth 20000 in
theorem ggL_law_X11_fault : GoodIn wsL_law wsX11_fault := goodIn_r _ [867, 22, 14, 521, 522, 523, 21, 524, 525, 148, 149, 526, 527, 528, 529, 530, 147, 235, 2, 236, 531, 532, 533, 534, 535, 536, 537, 538, 877, 878, 879, 880, 881, 882, 883, 884, 885, 886, 887, 888, 889, 890, 891, 892, 893, 901, 902, 903, 904, 896, 897, 898, 899, 900] (by decide +kernel) (by decide +kernel)
set_option maxRecDepth 20000 in
theorem gL_law_X11_fault : GoodIn wsL_law (wsV RL 184 RX11 yX11_fault wsX11_fault) := goodIn_app (goodIn_of _ (by decide +kernel)) ggL_law_X11_fault
set_option maxRecDepth 20000 in
theorem ggL_law_L_setProgram : GoodIn wsL_law wsL_setProgram := goodIn_ca (goodIn_ca (goodIn_r _ [512, 443, 365, 513, 514, 515, 2, 516, 22, 14, 18, 517, 518, 519, 520, 469, 470, 471, 472, 473, 174, 175, 36, 176, 168, 449, 450, 451, 452, 453, 500, 501, 502, 370, 235, 236, 521, 522, 523, 21, 524, 525, 148, 149, 526, 527, 528, 529, 530, 147, 531, 532, 533, 534, 535, 536, 537, 538, 371, 372, 373, 374, 375, 389, 390, 391, 17, 392, 393, 142, 394, 395, 396, 397, 398, 399, 400, 13, 401, 27, 163, 28, 29, 33, 37, 40, 44, 48, 52, 56, 60, 61, 402, 403, 404, 32, 405, 201, 69, 70, 71, 126, 127, 128, 129, 130, 131, 132, 133, 134, 135, 406, 407, 408, 409, 75, 410, 411, 412, 413, 414, 43, 415, 80, 416, 417, 418, 47, 419, 88, 90, 420, 421, 422, 51, 423, 101, 102, 424, 95, 96, 425, 426, 427, 55, 428, 109, 429, 430, 431, 59, 432, 433, 434, 118, 120, 435, 539, 540, 541, 542, 543, 544, 545, 546, 547, 877, 878, 879, 880, 881, 882, 883, 884, 885, 886, 887, 888, 889, 890, 891, 892, 893, 901, 902, 903, 904, 896, 897, 898, 899, 900, 905, 906, 894, 895, 907, 908, 909, 910, 911, 912, 913, 914, 915, 916, 917, 918, 919] (by decide +kernel) (by decide +kernel)) (goodIn_sub (fun _ h => List.mem_append_right _ h) (by decide +kernel))) (goodIn_sub (fun _ h => List.mem_append_left _ (List.mem_append_left _ (List.mem_append_right _ h))) (by decide +kernel))
set_option maxRecDepth 20000 in
theorem gL_law_L_setProgram : GoodIn wsL_law (va_wsS RL 147 yL_setProgram wsL_setProgram) := goodIn_app (goodIn_of _ (by decide +kernel)) ggL_law_L_setProgram
set_option maxRecDepth 20000 in
theorem ggL_law_L_program : GoodIn wsL_law wsL_program := goodIn_ca (goodIn_r _ [558, 443, 559, 560, 561, 2, 562, 14, 517, 518, 519, 520, 469, 470, 471, 472, 473, 174, 175, 36, 176, 168, 449, 450, 451, 452, 453, 500, 501, 502, 370, 235, 236, 340, 313, 314, 43, 315, 80, 877, 878, 879, 880, 881, 882, 883, 884, 885, 886, 887, 888, 889, 890, 891, 892, 893, 905, 906, 907] (by decide +kernel) (by decide +kernel)) (goodIn_sub (fun _ h => List.mem_append_right _ h) (by decide +kernel))
set_option maxRecDepth 20000 in
theorem gL_law_L_program : GoodIn wsL_law (va_wsS RL 113 yL_program wsL_program) := goodIn_app (goodIn_of _ (by decide +kernel)) ggL_law_L_program
set_option maxRecDepth 20000 in
theorem ggL_law_L_rule : GoodIn wsL_law wsL_rule := goodIn_ca (goodIn_ca (goodIn_r _ [505, 443, 365, 506, 507, 508, 2, 509, 14, 500, 501, 502, 370, 235, 236, 449, 450, 451, 452, 453, 371, 372, 373, 374, 375, 877, 878, 879, 880, 881, 882, 883, 884, 885, 886, 887, 888, 889, 890, 891, 892, 893] (by decide +kernel) (by decide +kernel)) (goodIn_sub (fun _ h => List.mem_append_right _ h) (by decide +kernel))) (goodIn_sub (fun _ h => List.mem_append_left _ (List.mem_append_left _ (List.mem_append_right _ h))) (by decide +kernel))
set_option maxRecDepth 20000 in
theorem gL_law_L_rule : GoodIn wsL_law (va_wsS RL 118 yL_rule wsL_rule) := goodIn_app (goodIn_of _ (by decide +kernel)) ggL_law_L_rule
