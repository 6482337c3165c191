set_option maxRecDepth 20000 in
theorem c_X12_close_0 : GoodIn wsL_law [Cond.code yX12_close cX12_close 3 (some .int)] := goodIn_r _ [888] (by decide +kernel) (by decide +kernel)
set_option maxRecDepth 20000 in
theorem c_X12_close_r1 : GoodIn wsL_law wsX12_close_r1 := goodIn_r _ [251, 156, 889, 890, 891, 5, 892, 717, 718, 719, 720, 893, 894, 895, 896, 713, 714, 715, 716, 252, 253, 254, 897, 898] (by decide +kernel) (by decide +kernel)
set_option maxRecDepth 20000 in
theorem c_X12_close_r2 : GoodIn wsL_law wsX12_close_r2 := goodIn_r _ [899, 900, 729, 730, 731, 732, 733, 734, 735, 736, 360, 361, 362, 721, 722, 723, 724, 255, 256, 257, 258, 259, 157, 901] (by decide +kernel) (by decide +kernel)
set_option maxRecDepth 20000 in
theorem c_X12_close_r3 : GoodIn wsL_law wsX12_close_r3 := goodIn_r _ [902, 903, 904, 905, 906, 907, 908, 909, 910, 911, 912, 160, 159, 913, 914, 915, 916, 917, 918, 919, 920, 921, 922, 923] (by decide +kernel) (by decide +kernel)
set_option maxRecDepth 20000 in
theorem c_X12_close_r4 : GoodIn wsL_law wsX12_close_r4 := goodIn_r _ [924, 166, 167, 168, 169, 621, 622, 623, 624, 162, 163, 164, 165, 574, 575, 576, 577, 494, 495, 496, 528, 529, 530, 531] (by decide +kernel) (by decide +kernel)
set_option maxRecDepth 20000 in
theorem c_X12_close_r5 : GoodIn wsL_law wsX12_close_r5 := goodIn_r _ [578, 579, 580, 581, 625, 626, 627, 628, 629, 630, 631, 632] (by decide +kernel) (by decide +kernel)
set_option maxRecDepth 20000 in
theorem c_X12_close_X12 : GoodIn wsL_law wsX120 := goodIn_sub inlX12 (by decide +kernel)
theorem ggL_law_X12_close : GoodIn wsL_law wsX12_close := goodIn_app c_X12_close_0 (goodIn_app (goodIn_app c_X12_close_r1 (goodIn_app c_X12_close_r2 (goodIn_app c_X12_close_r3 (goodIn_app c_X12_close_r4 c_X12_close_r5)))) c_X12_close_X12)
set_option maxRecDepth 20000 in
theorem gL_law_X12_close : GoodIn wsL_law (wsV RL 157 RX12 yX12_close wsX12_close) := goodIn_app (goodIn_of _ (by decide +kernel)) ggL_law_X12_close
