set_option maxRecDepth 20000 in
theorem ggL_law_X11_init : GoodIn wsL_law wsX11_init := goodIn_r _ [7, 8, 9, 10, 11, 12, 13, 14, 15, 16, 17, 18, 19, 20, 21, 22, 23, 24, 25, 26, 27, 28, 29, 30, 31, 32, 33, 34, 35, 36, 37, 38, 39, 40, 41, 42, 43, 44, 45, 46, 47, 48, 49, 50, 51, 52, 53, 54, 55, 56, 57, 58, 59, 60, 61, 62, 63, 64, 65, 66, 67, 68, 69, 70, 71, 72, 73, 74, 75, 76, 77, 78, 79, 80, 81, 82, 83, 84, 85, 86, 87, 88, 89, 90, 91, 92, 93, 94, 95, 96, 97, 98, 99, 100, 101, 102, 103, 104, 105, 106, 107, 108, 109, 110, 111, 112, 113, 114, 115, 116, 117, 118, 119, 120, 121, 122, 123, 124, 125, 126, 2, 127, 128, 129, 130, 131, 132, 133, 134, 135, 136, 137, 138, 139, 140, 141, 142, 143, 144, 145, 146, 147, 148, 149, 880, 881, 882, 883, 884, 885, 886, 887, 888, 889, 890, 891, 892, 893, 877, 878, 879, 894, 895, 896, 897, 898, 899, 900, 901, 902, 903, 904, 905, 906, 907, 908, 909, 910, 911, 912, 913, 914, 915, 916, 917, 918, 919, 920, 921, 922, 923, 924, 925] (by decide +kernel) (by decide +kernel)
set_option maxRecDepth 20000 in
theorem gL_law_X11_init : GoodIn wsL_law (wsX11_init) := ggL_law_X11_init
set_option maxRecDepth 20000 in
theorem c_L_refuses_0 : GoodIn wsL_law [Cond.code yL_refuses cL_refuses 6 (some .boolean)] := goodIn_r _ [153] (by decide +kernel) (by decide +kernel)
set_option maxRecDepth 20000 in
theorem c_L_refuses_r1 : GoodIn wsL_law wsL_refuses_r1 := goodIn_r _ [154, 155, 156, 2, 157, 158, 14, 22, 18, 159, 160, 161, 13, 162, 48, 28, 29, 27, 163, 33, 37, 52, 60, 164] (by decide +kernel) (by decide +kernel)
set_option maxRecDepth 20000 in
theorem c_L_refuses_r2 : GoodIn wsL_law wsL_refuses_r2 := goodIn_r _ [165, 166, 36, 167, 168, 169, 170, 171, 172, 75, 173, 174, 175, 176, 177, 178, 179, 59, 180, 118, 181, 182, 183, 184] (by decide +kernel) (by decide +kernel)
set_option maxRecDepth 20000 in
theorem c_L_refuses_r3 : GoodIn wsL_law wsL_refuses_r3 := goodIn_r _ [185, 186, 187, 188, 189, 190, 191, 32, 192, 193, 194, 195, 196, 69, 197, 198, 199, 200, 201, 202, 203, 204, 205, 70] (by decide +kernel) (by decide +kernel)
set_option maxRecDepth 20000 in
theorem c_L_refuses_r4 : GoodIn wsL_law wsL_refuses_r4 := goodIn_r _ [206, 207, 208, 209, 71, 210, 211, 212, 213, 214, 215, 216, 217, 218, 219, 220, 221, 222, 223, 224, 225, 51, 226, 101] (by decide +kernel) (by decide +kernel)
set_option maxRecDepth 20000 in
theorem c_L_refuses_r5 : GoodIn wsL_law wsL_refuses_r5 := goodIn_r _ [227, 228, 229, 230, 95, 231, 232, 233, 234, 96, 235, 236, 237, 238, 239, 240, 241, 242, 243, 244, 56, 245, 246, 247] (by decide +kernel) (by decide +kernel)
set_option maxRecDepth 20000 in
theorem c_L_refuses_r6 : GoodIn wsL_law wsL_refuses_r6 := goodIn_r _ [47, 248, 88, 249, 250, 251, 252, 253, 254, 255, 55, 256, 109, 257, 258, 259, 260, 90, 261, 262, 263, 264, 265, 266] (by decide +kernel) (by decide +kernel)
set_option maxRecDepth 20000 in
theorem c_L_refuses_r7 : GoodIn wsL_law wsL_refuses_r7 := goodIn_r _ [267, 268, 269, 270, 130, 271, 272, 273, 274, 275, 276, 129, 131, 277, 278, 279, 280, 281, 282, 283, 284, 285, 286, 287] (by decide +kernel) (by decide +kernel)
set_option maxRecDepth 20000 in
theorem c_L_refuses_r8 : GoodIn wsL_law wsL_refuses_r8 := goodIn_r _ [288, 289, 290, 291, 292, 293, 294, 295, 296, 297, 298, 299, 300, 301, 302, 303, 304, 305, 306, 43, 307, 308, 309, 310] (by decide +kernel) (by decide +kernel)
set_option maxRecDepth 20000 in
theorem c_L_refuses_r9 : GoodIn wsL_law wsL_refuses_r9 := goodIn_r _ [311, 312, 313, 314, 315, 80, 316, 317, 318, 319, 320, 321, 322, 323, 324, 325, 326, 327, 328, 329, 330, 331, 332, 333] (by decide +kernel) (by decide +kernel)
set_option maxRecDepth 20000 in
theorem c_L_refuses_r10 : GoodIn wsL_law wsL_refuses_r10 := goodIn_r _ [334, 335, 336, 337, 338, 339, 340, 341, 342, 343, 344, 345, 346, 347, 348, 349, 350, 351, 352, 353, 354, 355, 356, 357] (by decide +kernel) (by decide +kernel)
set_option maxRecDepth 20000 in
theorem c_L_refuses_r11 : GoodIn wsL_law wsL_refuses_r11 := goodIn_r _ [358, 359, 360, 361, 362, 363, 152, 364, 365, 366, 367, 368, 369, 370, 371, 372, 373, 374, 375, 376, 377, 378, 379, 380] (by decide +kernel) (by decide +kernel)
set_option maxRecDepth 20000 in
theorem c_L_refuses_r12 : GoodIn wsL_law wsL_refuses_r12 := goodIn_r _ [381, 382, 383, 384, 385, 386, 387, 388, 389, 390, 391, 17, 392, 393, 142, 394, 395, 396, 397, 398, 399, 400, 401, 40] (by decide +kernel) (by decide +kernel)
set_option maxRecDepth 20000 in
theorem c_L_refuses_r13 : GoodIn wsL_law wsL_refuses_r13 := goodIn_r _ [44, 61, 402, 403, 404, 405, 126, 127, 128, 132, 133, 134, 135, 406, 407, 408, 409, 410, 411, 412, 413, 414, 415, 416] (by decide +kernel) (by decide +kernel)
set_option maxRecDepth 20000 in
theorem c_L_refuses_r14 : GoodIn wsL_law wsL_refuses_r14 := goodIn_r _ [417, 418, 419, 420, 421, 422, 423, 102, 424, 425, 426, 427, 428, 429, 430, 431, 432, 433, 434, 120, 435, 436, 437, 438] (by decide +kernel) (by decide +kernel)
set_option maxRecDepth 20000 in
theorem c_L_refuses_r15 : GoodIn wsL_law wsL_refuses_r15 := goodIn_r _ [439, 440, 441, 442, 443, 444, 445, 446, 447, 448, 449, 450, 451, 452, 453, 454, 455, 456, 457, 458, 459, 460, 461, 462] (by decide +kernel) (by decide +kernel)
set_option maxRecDepth 20000 in
theorem c_L_refuses_r16 : GoodIn wsL_law wsL_refuses_r16 := goodIn_r _ [463, 464, 465, 466, 467, 468, 469, 470, 471, 472, 473, 474, 475, 476, 477, 478, 479, 480, 481, 482, 483, 484, 485, 486] (by decide +kernel) (by decide +kernel)
set_option maxRecDepth 20000 in
theorem c_L_refuses_r17 : GoodIn wsL_law wsL_refuses_r17 := goodIn_r _ [487, 488, 489, 490, 491, 492, 493, 494, 495, 496, 497, 498, 499, 500, 501, 502, 503, 504, 505, 506, 507, 508, 509, 510] (by decide +kernel) (by decide +kernel)
set_option maxRecDepth 20000 in
theorem c_L_refuses_r18 : GoodIn wsL_law wsL_refuses_r18 := goodIn_r _ [511, 512, 513, 514, 515, 516, 517, 518, 519, 520, 521, 522, 523, 21, 524, 525, 148, 149, 526, 527, 528, 529, 530, 147] (by decide +kernel) (by decide +kernel)
set_option maxRecDepth 20000 in
theorem c_L_refuses_r19 : GoodIn wsL_law wsL_refuses_r19 := goodIn_r _ [531, 532, 533, 534, 535, 536, 537, 538, 539, 540, 541, 542, 543, 544, 545, 546, 547, 548, 549, 550, 551, 552, 553, 554] (by decide +kernel) (by decide +kernel)
set_option maxRecDepth 20000 in
theorem c_L_refuses_r20 : GoodIn wsL_law wsL_refuses_r20 := goodIn_r _ [555, 556, 557, 558, 559, 560, 561, 562, 563, 564, 565, 566, 567, 568, 569, 570, 571, 572, 573, 574, 575, 576, 577, 578] (by decide +kernel) (by decide +kernel)
set_option maxRecDepth 20000 in
theorem c_L_refuses_r21 : GoodIn wsL_law wsL_refuses_r21 := goodIn_r _ [579, 580, 581, 98, 99, 100, 103, 82, 83, 84, 582, 111, 112, 113, 114, 583, 584, 585, 586, 587, 588, 589, 590, 591] (by decide +kernel) (by decide +kernel)
set_option maxRecDepth 20000 in
theorem c_L_refuses_r22 : GoodIn wsL_law wsL_refuses_r22 := goodIn_r _ [592, 593, 594, 595, 596, 597, 598, 599, 600, 601, 602, 603, 604, 605, 606, 607, 608, 609, 610, 611, 612, 613, 614, 615] (by decide +kernel) (by decide +kernel)
set_option maxRecDepth 20000 in
theorem c_L_refuses_r23 : GoodIn wsL_law wsL_refuses_r23 := goodIn_r _ [616, 617, 618, 619, 620, 621, 622, 623, 624, 625, 626, 627, 628, 629, 630, 631, 632, 633, 634, 635, 636, 637, 638, 639] (by decide +kernel) (by decide +kernel)
set_option maxRecDepth 20000 in
theorem c_L_refuses_r24 : GoodIn wsL_law wsL_refuses_r24 := goodIn_r _ [640, 641, 642, 643, 644, 645, 646, 647, 648, 649, 650, 651, 652, 653, 654, 655, 656, 657, 658, 659, 660, 661, 662, 663] (by decide +kernel) (by decide +kernel)
set_option maxRecDepth 20000 in
theorem c_L_refuses_r25 : GoodIn wsL_law wsL_refuses_r25 := goodIn_r _ [664, 665, 666, 667, 668, 669, 670, 671, 672, 673, 674, 675, 676, 677, 678, 679, 680, 681, 682, 683, 684, 685, 686, 687] (by decide +kernel) (by decide +kernel)
set_option maxRecDepth 20000 in
theorem c_L_refuses_r26 : GoodIn wsL_law wsL_refuses_r26 := goodIn_r _ [688, 689, 690, 691, 692, 693, 694, 695, 696, 697, 698, 699, 700, 701, 65, 702, 703, 704, 64, 705, 125, 706, 707, 708] (by decide +kernel) (by decide +kernel)
set_option maxRecDepth 20000 in
theorem c_L_refuses_r27 : GoodIn wsL_law wsL_refuses_r27 := goodIn_r _ [709, 710, 711, 712, 713, 714, 715, 716, 717, 718, 719, 720, 721, 722, 723, 724, 725, 726, 727, 728, 729, 730, 731, 732] (by decide +kernel) (by decide +kernel)
set_option maxRecDepth 20000 in
theorem c_L_refuses_r28 : GoodIn wsL_law wsL_refuses_r28 := goodIn_r _ [733, 734, 735, 736, 737, 738, 739, 740, 741, 742, 743, 744, 745, 746, 747, 748, 749, 750, 751, 752, 753, 754, 755, 756] (by decide +kernel) (by decide +kernel)
set_option maxRecDepth 20000 in
theorem c_L_refuses_r29 : GoodIn wsL_law wsL_refuses_r29 := goodIn_r _ [757, 758, 759, 760, 761, 762, 763, 764, 765, 766] (by decide +kernel) (by decide +kernel)
set_option maxRecDepth 20000 in
theorem c_L_refuses_X11 : GoodIn wsL_law wsX110 := goodIn_sub inlX11 (by decide +kernel)
set_option maxRecDepth 20000 in
theorem c_L_refuses_X0 : GoodIn wsL_law wsX00 := goodIn_sub inlX0 (by decide +kernel)
set_option maxRecDepth 20000 in
theorem c_L_refuses_X2 : GoodIn wsL_law wsX20 := goodIn_sub inlX2 (by decide +kernel)
set_option maxRecDepth 20000 in
theorem c_L_refuses_X7 : GoodIn wsL_law wsX70 := goodIn_sub inlX7 (by decide +kernel)
set_option maxRecDepth 20000 in
theorem c_L_refuses_X8 : GoodIn wsL_law wsX80 := goodIn_sub inlX8 (by decide +kernel)
set_option maxRecDepth 20000 in
theorem c_L_refuses_X5 : GoodIn wsL_law wsX50 := goodIn_sub inlX5 (by decide +kernel)
set_option maxRecDepth 20000 in
theorem c_L_refuses_X3 : GoodIn wsL_law wsX30 := goodIn_sub inlX3 (by decide +kernel)
set_option maxRecDepth 20000 in
theorem c_L_refuses_X10 : GoodIn wsL_law wsX100 := goodIn_sub inlX10 (by decide +kernel)
set_option maxRecDepth 20000 in
theorem c_L_refuses_X9 : GoodIn wsL_law wsX90 := goodIn_sub inlX9 (by decide +kernel)
set_option maxRecDepth 20000 in
theorem c_L_refuses_X6 : GoodIn wsL_law wsX60 := goodIn_sub inlX6 (by decide +kernel)
set_option maxRecDepth 20000 in
theorem c_L_refuses_X4 : GoodIn wsL_law wsX40 := goodIn_sub inlX4 (by decide +kernel)
set_option maxRecDepth 20000 in
theorem c_L_refuses_X1 : GoodIn wsL_law wsX10 := goodIn_sub inlX1 (by decide +kernel)
set_option maxRecDepth 20000 in
theorem c_L_refuses_x319 : GoodIn wsL_law ((vx_at0 RX11 319 "java/lang/IllegalArgumentException" ["java/lang/RuntimeException", "java/lang/Exception"]).filter goodWord) := goodIn_sub (fun _ h => List.mem_append_left _ (List.mem_append_left _ (List.mem_append_right _ h))) (by decide +kernel)
set_option maxRecDepth 20000 in
theorem c_L_refuses_x322 : GoodIn wsL_law ((vx_at0 RX11 322 "java/lang/IllegalStateException" ["java/lang/RuntimeException", "java/lang/Exception"]).filter goodWord) := goodIn_sub (fun _ h => List.mem_append_left _ (List.mem_append_right _ h)) (by decide +kernel)
set_option maxRecDepth 20000 in
theorem c_L_refuses_x316 : GoodIn wsL_law ((vx_at0 RX11 316 "java/lang/IndexOutOfBoundsException" ["java/lang/RuntimeException", "java/lang/Exception"]).filter goodWord) := goodIn_sub (fun _ h => List.mem_append_right _ h) (by decide +kernel)
theorem ggL_law_L_refuses : GoodIn wsL_law wsL_refuses := goodIn_app c_L_refuses_0 (goodIn_app (goodIn_app (goodIn_app (goodIn_app (goodIn_app (goodIn_app (goodIn_app (goodIn_app (goodIn_app (goodIn_app (goodIn_app (goodIn_app (goodIn_app (goodIn_app (goodIn_app (goodIn_app c_L_refuses_r1 (goodIn_app c_L_refuses_r2 (goodIn_app c_L_refuses_r3 (goodIn_app c_L_refuses_r4 (goodIn_app c_L_refuses_r5 (goodIn_app c_L_refuses_r6 (goodIn_app c_L_refuses_r7 (goodIn_app c_L_refuses_r8 (goodIn_app c_L_refuses_r9 (goodIn_app c_L_refuses_r10 (goodIn_app c_L_refuses_r11 (goodIn_app c_L_refuses_r12 (goodIn_app c_L_refuses_r13 (goodIn_app c_L_refuses_r14 (goodIn_app c_L_refuses_r15 (goodIn_app c_L_refuses_r16 (goodIn_app c_L_refuses_r17 (goodIn_app c_L_refuses_r18 (goodIn_app c_L_refuses_r19 (goodIn_app c_L_refuses_r20 (goodIn_app c_L_refuses_r21 (goodIn_app c_L_refuses_r22 (goodIn_app c_L_refuses_r23 (goodIn_app c_L_refuses_r24 (goodIn_app c_L_refuses_r25 (goodIn_app c_L_refuses_r26 (goodIn_app c_L_refuses_r27 (goodIn_app c_L_refuses_r28 c_L_refuses_r29)))))))))))))))))))))))))))) c_L_refuses_X11) c_L_refuses_X0) c_L_refuses_X2) c_L_refuses_X7) c_L_refuses_X8) c_L_refuses_X5) c_L_refuses_X3) c_L_refuses_X10) c_L_refuses_X9) c_L_refuses_X6) c_L_refuses_X4) c_L_refuses_X1) c_L_refuses_x319) c_L_refuses_x322) c_L_refuses_x316)
set_option maxRecDepth 20000 in
theorem gL_law_L_refuses : GoodIn wsL_law (va_wsS RL 164 yL_refuses wsL_refuses) := goodIn_app (goodIn_of _ (by decide +kernel)) ggL_law_L_refuses
