set_option maxRecDepth 20000 in
theorem c_X11_strangestJuror_0 : GoodIn wsL_law [Cond.code yX11_strangestJuror cX11_strangestJuror 5 (some .int)] := goodIn_r _ [351] (by decide +kernel) (by decide +kernel)
set_option maxRecDepth 20000 in
theorem c_X11_strangestJuror_r1 : GoodIn wsL_law wsX11_strangestJuror_r1 := goodIn_r _ [14, 352, 353, 354, 13, 355, 52, 48, 56, 356, 357, 130, 358, 269, 270, 271, 359, 228, 229, 51, 230, 101, 95, 272] (by decide +kernel) (by decide +kernel)
set_option maxRecDepth 20000 in
theorem c_X11_strangestJuror_r2 : GoodIn wsL_law wsX11_strangestJuror_r2 := goodIn_r _ [273, 274, 47, 275, 88, 276, 129, 131, 277, 253, 254, 255, 55, 256, 109, 257, 258, 259, 260, 90, 360, 250, 251, 252] (by decide +kernel) (by decide +kernel)
set_option maxRecDepth 20000 in
theorem c_X11_strangestJuror_r3 : GoodIn wsL_law wsX11_strangestJuror_r3 := goodIn_r _ [361] (by decide +kernel) (by decide +kernel)
set_option maxRecDepth 20000 in
theorem c_X11_strangestJuror_X11 : GoodIn wsL_law wsX110 := goodIn_sub inlX11 (by decide +kernel)
set_option maxRecDepth 20000 in
theorem c_X11_strangestJuror_X0 : GoodIn wsL_law wsX00 := goodIn_sub inlX0 (by decide +kernel)
set_option maxRecDepth 20000 in
theorem c_X11_strangestJuror_X3 : GoodIn wsL_law wsX30 := goodIn_sub inlX3 (by decide +kernel)
set_option maxRecDepth 20000 in
theorem c_X11_strangestJuror_X7 : GoodIn wsL_law wsX70 := goodIn_sub inlX7 (by decide +kernel)
set_option maxRecDepth 20000 in
theorem c_X11_strangestJuror_X6 : GoodIn wsL_law wsX60 := goodIn_sub inlX6 (by decide +kernel)
theorem ggL_law_X11_strangestJuror : GoodIn wsL_law wsX11_strangestJuror := goodIn_app c_X11_strangestJuror_0 (goodIn_app (goodIn_app (goodIn_app (goodIn_app (goodIn_app (goodIn_app c_X11_strangestJuror_r1 (goodIn_app c_X11_strangestJuror_r2 c_X11_strangestJuror_r3)) c_X11_strangestJuror_X11) c_X11_strangestJuror_X0) c_X11_strangestJuror_X3) c_X11_strangestJuror_X7) c_X11_strangestJuror_X6)
set_option maxRecDepth 20000 in
theorem gL_law_X11_strangestJuror : GoodIn wsL_law (wsV RL 171 RX11 yX11_strangestJuror wsX11_strangestJuror) := goodIn_app (goodIn_of _ (by decide +kernel)) ggL_law_X11_strangestJuror
