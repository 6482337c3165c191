theorem dX11_play_35 : decode cX11_play 35 = .ok (.getfield 164, 3) := by decide +kernel
theorem dX11_play_38 : decode cX11_play 38 = .ok (.getfield 177, 3) := by decide +kernel
theorem dX11_play_41 : decode cX11_play 41 = .ok (.if_icmp .ge 7, 3) := by decide +kernel
theorem dX11_play_44 : decode cX11_play 44 = .ok (.iconst 1, 1) := by decide +kernel
theorem dX11_play_45 : decode cX11_play 45 = .ok (.goto 4, 3) := by decide +kernel
theorem dX11_play_48 : decode cX11_play 48 = .ok (.iconst 0, 1) := by decide +kernel
theorem dX11_play_49 : decode cX11_play 49 = .ok (.invokestatic 51, 3) := by decide +kernel
theorem dX11_play_52 : decode cX11_play 52 = .ok (.aload_n 0, 1) := by decide +kernel
theorem dX11_play_53 : decode cX11_play 53 = .ok (.getfield 19, 3) := by decide +kernel
theorem dX11_play_56 : decode cX11_play 56 = .ok (.aload_n 0, 1) := by decide +kernel
theorem dX11_play_57 : decode cX11_play 57 = .ok (.getfield 10, 3) := by decide +kernel
theorem dX11_play_60 : decode cX11_play 60 = .ok (.invokevirtual 54, 3) := by decide +kernel
theorem dX11_play_63 : decode cX11_play 63 = .ok (.aload_n 0, 1) := by decide +kernel
theorem dX11_play_64 : decode cX11_play 64 = .ok (.getfield 10, 3) := by decide +kernel
theorem dX11_play_67 : decode cX11_play 67 = .ok (.getfield 164, 3) := by decide +kernel
theorem dX11_play_70 : decode cX11_play 70 = .ok (.iload_n 1, 1) := by decide +kernel
theorem dX11_play_71 : decode cX11_play 71 = .ok (.invokevirtual 183, 3) := by decide +kernel
theorem dX11_play_74 : decode cX11_play 74 = .ok (.ireturn, 1) := by decide +kernel
set_option maxRecDepth 20000 in
theorem ggX11_mark_X11_requireJurorAndEntrant : GoodIn wsX11_mark wsX11_requireJurorAndEntrant := goodIn_ca (goodIn_r _ [6, 1, 7, 8, 9, 10, 11, 12, 13, 14, 5, 15, 16, 17, 18, 19, 20, 21, 22, 23, 24, 25, 26, 27, 184, 185, 186, 187, 188, 189, 190, 191, 192, 193, 194, 195, 196, 197, 198, 199, 200, 201, 202, 203, 204] (by decide +kernel) (by decide +kernel)) (goodIn_sub (fun _ h => List.mem_cons_of_mem _ (List.mem_append_left _ (List.mem_append_left _ (List.mem_append_right _ h)))) (by decide +kernel))
set_option maxRecDepth 20000 in
theorem gX11_mark_X11_requireJurorAndEntrant : GoodIn wsX11_mark (wsV RX11 83 RX11 yX11_requireJurorAndEntrant wsX11_requireJurorAndEntrant) := goodIn_app (goodIn_of _ (by decide +kernel)) ggX11_mark_X11_requireJurorAndEntrant
set_option maxRecDepth 20000 in
theorem ggX11_mark_X11_isBetween : GoodIn wsX11_mark wsX11_isBetween := goodIn_r _ [30] (by decide +kernel) (by decide +kernel)
set_option maxRecDepth 20000 in
theorem gX11_mark_X11_isBetween : GoodIn wsX11_mark (va_wsS RX11 30 yX11_isBetween wsX11_isBetween) := goodIn_app (goodIn_of _ (by decide +kernel)) ggX11_mark_X11_isBetween
set_option maxRecDepth 20000 in
theorem ggX11_mark_X11_requireArgument : GoodIn wsX11_mark wsX11_requireArgument := goodIn_ca (goodIn_r _ [33, 34, 35] (by decide +kernel) (by decide +kernel)) (goodIn_sub (fun _ h => List.mem_cons_of_mem _ (List.mem_append_left _ (List.mem_append_right _ h))) (by decide +kernel))
set_option maxRecDepth 20000 in
theorem gX11_mark_X11_requireArgument : GoodIn wsX11_mark (va_wsS RX11 34 yX11_requireArgument wsX11_requireArgument) := goodIn_app (goodIn_of _ (by decide +kernel)) ggX11_mark_X11_requireArgument
set_option maxRecDepth 20000 in
theorem ggX11_mark_X11_enter : GoodIn wsX11_mark wsX11_enter := goodIn_ca (goodIn_r _ [39, 1, 40, 41, 42, 43, 44, 45, 46, 47, 48, 49, 50, 51, 52, 53, 54, 29, 5, 30, 55, 56, 57, 58, 59, 60, 61, 62, 63, 64, 65, 66, 67, 10, 68, 69, 70, 71, 72, 73, 74, 75, 76, 77, 78, 79, 80, 81, 82, 83, 84, 85, 86, 87, 88, 89, 90, 91, 92, 93, 94, 95, 96, 97, 98, 99, 100, 101, 102, 103, 104, 105, 106, 107, 108, 109, 110, 111, 112, 113, 114, 115, 116, 117, 118, 119, 120, 121, 25, 122, 27, 123, 124, 125, 126, 127, 128, 129, 130, 131, 132, 133, 134, 135, 12, 136, 137, 138, 139, 140, 141, 142, 143, 144, 145, 146, 147, 148, 149, 150, 151, 152, 153, 154, 155, 156, 157, 158, 159, 160, 161, 162, 163, 164, 165, 166, 167, 168, 169, 170, 171, 172, 173, 174, 175, 176, 177, 178, 179, 180, 181, 182, 183, 184, 185, 186, 187, 188, 189, 190, 191, 192, 193, 194, 195, 196, 197, 198, 199, 200, 205, 206, 207, 208, 209, 210, 211, 212, 213, 201, 202, 214, 215, 216, 217, 218, 219, 203, 204, 220, 221] (by decide +kernel) (by decide +kernel)) (goodIn_sub (fun _ h => List.mem_cons_of_mem _ (List.mem_append_right _ h)) (by decide +kernel))
set_option maxRecDepth 20000 in
theorem gX11_mark_X11_enter : GoodIn wsX11_mark (wsV RX11 186 RX11 yX11_enter wsX11_enter) := goodIn_app (goodIn_of _ (by decide +kernel)) ggX11_mark_X11_enter
theorem dX11_mark_0 : decode cX11_mark 0 = .ok (.aload_n 0, 1) := by decide +kernel
theorem dX11_mark_1 : decode cX11_mark 1 = .ok (.iload_n 1, 1) := by decide +kernel
theorem dX11_mark_2 : decode cX11_mark 2 = .ok (.iload_n 2, 1) := by decide +kernel
theorem dX11_mark_3 : decode cX11_mark 3 = .ok (.invokevirtual 83, 3) := by decide +kernel
theorem dX11_mark_6 : decode cX11_mark 6 = .ok (.iload_n 3, 1) := by decide +kernel
theorem dX11_mark_7 : decode cX11_mark 7 = .ok (.iconst 0, 1) := by decide +kernel
theorem dX11_mark_8 : decode cX11_mark 8 = .ok (.aload_n 0, 1) := by decide +kernel
theorem dX11_mark_9 : decode cX11_mark 9 = .ok (.getfield 10, 3) := by decide +kernel
theorem dX11_mark_12 : decode cX11_mark 12 = .ok (.getfield 38, 3) := by decide +kernel
theorem dX11_mark_15 : decode cX11_mark 15 = .ok (.iconst 2, 1) := by decide +kernel
theorem dX11_mark_16 : decode cX11_mark 16 = .ok (.if_icmp .ne 8, 3) := by decide +kernel
theorem dX11_mark_19 : decode cX11_mark 19 = .ok (.bipush 10, 2) := by decide +kernel
theorem dX11_mark_21 : decode cX11_mark 21 = .ok (.goto 5, 3) := by decide +kernel
theorem dX11_mark_24 : decode cX11_mark 24 = .ok (.bipush 100, 2) := by decide +kernel
theorem dX11_mark_26 : decode cX11_mark 26 = .ok (.invokestatic 30, 3) := by decide +kernel
theorem dX11_mark_29 : decode cX11_mark 29 = .ok (.invokestatic 34, 3) := by decide +kernel
theorem dX11_mark_32 : decode cX11_mark 32 = .ok (.aload_n 0, 1) := by decide +kernel
theorem dX11_mark_33 : decode cX11_mark 33 = .ok (.iload_n 1, 1) := by decide +kernel
theorem dX11_mark_34 : decode cX11_mark 34 = .ok (.iload_n 2, 1) := by decide +kernel
theorem dX11_mark_35 : decode cX11_mark 35 = .ok (.iload_n 3, 1) := by decide +kernel
theorem dX11_mark_36 : decode cX11_mark 36 = .ok (.invokevirtual 186, 3) := by decide +kernel
theorem dX11_mark_39 : decode cX11_mark 39 = .ok (.ireturn, 1) := by decide +kernel
set_option maxRecDepth 20000 in
theorem ggX11_abstain_X11_requireJurorAndEntrant : GoodIn wsX11_abstain wsX11_requireJurorAndEntrant := goodIn_ca (goodIn_r _ [5, 6, 7, 8, 9, 10, 11, 12, 13, 14, 4, 15, 16, 17, 18, 19, 20, 21, 22, 23, 24, 25, 26, 27, 178, 179, 180, 181, 182, 183, 184, 185, 186, 187, 188, 189, 190, 191, 192, 193, 194, 195, 196, 197, 198] (by decide +kernel) (by decide +kernel)) (goodIn_sub (fun _ h => List.mem_cons_of_mem _ (List.mem_append_left _ (List.mem_append_right _ h))) (by decide +kernel))
set_option maxRecDepth 20000 in
theorem gX11_abstain_X11_requireJurorAndEntrant : GoodIn wsX11_abstain (wsV RX11 83 RX11 yX11_requireJurorAndEntrant wsX11_requireJurorAndEntrant) := goodIn_app (goodIn_of _ (by decide +kernel)) ggX11_abstain_X11_requireJurorAndEntrant
set_option maxRecDepth 20000 in
theorem ggX11_abstain_X11_enter : GoodIn wsX11_abstain wsX11_enter := goodIn_ca (goodIn_r _ [31, 6, 32, 33, 34, 35, 36, 37, 38, 39, 40, 41, 42, 43, 44, 45, 46, 47, 4, 48, 49, 50, 51, 52, 53, 54, 55, 56, 57, 58, 59, 60, 61, 10, 62, 63, 64, 65, 66, 67, 68, 69, 70, 71, 72, 73, 74, 75, 76, 77, 78, 79, 80, 81, 82, 83, 84, 85, 86, 87, 88, 89, 90, 91, 92, 93, 94, 95, 96, 97, 98, 99, 100, 101, 102, 103, 104, 105, 106, 107, 108, 109, 110, 111, 112, 113, 114, 115, 25, 116, 27, 117, 118, 119, 120, 121, 122, 123, 124, 125, 126, 127, 128, 129, 12, 130, 131, 132, 133, 134, 135, 136, 137, 138, 139, 140, 141, 142, 143, 144, 145, 146, 147, 148, 149, 150, 151, 152, 153, 154, 155, 156, 157, 158, 159, 160, 161, 162, 163, 164, 165, 166, 167, 168, 169, 170, 171, 172, 173, 174, 175, 176, 177, 178, 179, 180, 181, 182, 183, 184, 185, 186, 187, 188, 189, 190, 191, 192, 193, 194, 199, 200, 201, 202, 203, 204, 205, 206, 207, 195, 196, 208, 209, 210, 211, 212, 213, 197, 198, 214, 215] (by decide +kernel) (by decide +kernel)) (goodIn_sub (fun _ h => List.mem_cons_of_mem _ (List.mem_append_right _ h)) (by decide +kernel))
set_option maxRecDepth 20000 in
theorem gX11_abstain_X11_enter : GoodIn wsX11_abstain (wsV RX11 186 RX11 yX11_enter wsX11_enter) := goodIn_app (goodIn_of _ (by decide +kernel)) ggX11_abstain_X11_enter
theorem dX11_abstain_0 : decode cX11_abstain 0 = .ok (.aload_n 0, 1) := by decide +kernel
theorem dX11_abstain_1 : decode cX11_abstain 1 = .ok (.iload_n 1, 1) := by decide +kernel
theorem dX11_abstain_2 : decode cX11_abstain 2 = .ok (.iload_n 2, 1) := by decide +kernel
theorem dX11_abstain_3 : decode cX11_abstain 3 = .ok (.invokevirtual 83, 3) := by decide +kernel
theorem dX11_abstain_6 : decode cX11_abstain 6 = .ok (.aload_n 0, 1) := by decide +kernel
theorem dX11_abstain_7 : decode cX11_abstain 7 = .ok (.iload_n 1, 1) := by decide +kernel
theorem dX11_abstain_8 : decode cX11_abstain 8 = .ok (.iload_n 2, 1) := by decide +kernel
theorem dX11_abstain_9 : decode cX11_abstain 9 = .ok (.bipush (-2), 2) := by decide +kernel
theorem dX11_abstain_11 : decode cX11_abstain 11 = .ok (.invokevirtual 186, 3) := by decide +kernel
theorem dX11_abstain_14 : decode cX11_abstain 14 = .ok (.ireturn, 1) := by decide +kernel
set_option maxRecDepth 20000 in
theorem ggX11_enter_X0_canBeMarked : GoodIn wsX11_enter wsX0_canBeMarked := goodIn_r _ [7, 8, 9, 10, 11, 12, 13, 14, 15, 16, 17, 18, 19, 20, 21, 22, 23, 24, 25, 26, 27, 28, 29, 156, 157, 158, 159, 160, 161, 162, 163, 164, 165, 166, 167, 168, 169, 170, 171, 172, 173, 174, 175, 176, 177, 178] (by decide +kernel) (by decide +kernel)
set_option maxRecDepth 20000 in
theorem gX11_enter_X0_canBeMarked : GoodIn wsX11_enter (wsV RX11 189 RX0 yX0_canBeMarked wsX0_canBeMarked) := goodIn_app (goodIn_of _ (by decide +kernel)) ggX11_enter_X0_canBeMarked
set_option maxRecDepth 20000 in
theorem ggX11_enter_X3_isBarred : GoodIn wsX11_enter wsX3_isBarred := goodIn_r _ [34, 35, 179, 180] (by decide +kernel) (by decide +kernel)
set_option maxRecDepth 20000 in
theorem gX11_enter_X3_isBarred : GoodIn wsX11_enter (wsV RX11 91 RX3 yX3_isBarred wsX3_isBarred) := goodIn_app (goodIn_of _ (by decide +kernel)) ggX11_enter_X3_isBarred
set_option maxRecDepth 20000 in
theorem ggX11_enter_X11_requireState : GoodIn wsX11_enter wsX11_requireState := goodIn_ca (goodIn_r _ [38, 39, 40] (by decide +kernel) (by decide +kernel)) (goodIn_sub (fun _ h => List.mem_cons_of_mem _ (List.mem_append_right _ h)) (by decide +kernel))
set_option maxRecDepth 20000 in
theorem gX11_enter_X11_requireState : GoodIn wsX11_enter (va_wsS RX11 51 yX11_requireState wsX11_requireState) := goodIn_app (goodIn_of _ (by decide +kernel)) ggX11_enter_X11_requireState
set_option maxRecDepth 20000 in
theorem ggX11_enter_X5_keep : GoodIn wsX11_enter wsX5_keep := goodIn_r _ [45, 46, 47, 48, 49, 50, 44, 51, 52, 53, 54, 6, 55, 8, 56, 57, 58, 59, 60, 61, 62, 63, 10, 64, 9, 65, 66, 67, 68, 69, 70, 71, 72, 73, 74, 75, 18, 76, 77, 78, 79, 80, 81, 82, 83, 84, 85, 86, 87, 88, 89, 90, 91, 92, 93, 94, 95, 96, 97, 98, 99, 100, 101, 102, 33, 103, 104, 35, 105, 106, 107, 23, 108, 109, 110, 111, 112, 29, 113, 114, 115, 116, 117, 118, 119, 120, 121, 14, 122, 123, 124, 16, 125, 126, 181, 182, 156, 157, 158, 159, 160, 161, 162, 163, 164, 165, 166, 167, 168, 169, 183, 184, 185, 186, 187, 188, 189, 179, 180, 174, 175, 176, 177, 178, 190, 170, 171, 172, 173] (by decide +kernel) (by decide +kernel)
set_option maxRecDepth 20000 in
theorem gX11_enter_X5_keep : GoodIn wsX11_enter (wsV RX11 54 RX5 yX5_keep wsX5_keep) := goodIn_app (goodIn_of _ (by decide +kernel)) ggX11_enter_X5_keep
set_option maxRecDepth 20000 in
theorem ggX11_enter_X0_openSheet : GoodIn wsX11_enter wsX0_openSheet := goodIn_r _ [130, 8, 9, 64, 156, 157, 158, 159, 160, 161, 162, 163, 164, 165, 166, 167, 168, 169, 170, 171, 172, 173] (by decide +kernel) (by decide +kernel)
set_option maxRecDepth 20000 in
theorem gX11_enter_X0_openSheet : GoodIn wsX11_enter (wsV RX11 192 RX0 yX0_openSheet wsX0_openSheet) := goodIn_app (goodIn_of _ (by decide +kernel)) ggX11_enter_X0_openSheet
set_option maxRecDepth 20000 in
theorem ggX11_enter_X6_put : GoodIn wsX11_enter wsX6_put := goodIn_r _ [134, 118, 190] (by decide +kernel) (by decide +kernel)
set_option maxRecDepth 20000 in
theorem gX11_enter_X6_put : GoodIn wsX11_enter (wsV RX11 196 RX6 yX6_put wsX6_put) := goodIn_app (goodIn_of _ (by decide +kernel)) ggX11_enter_X6_put
set_option maxRecDepth 20000 in
theorem ggX11_enter_X0_countedMarks : GoodIn wsX11_enter wsX0_countedMarks := goodIn_r _ [138, 63, 139, 128, 129, 6, 130, 8, 9, 64, 140, 141, 142, 33, 143, 104, 144, 145, 146, 147, 148, 149, 150, 116, 151, 118, 152, 31, 32, 34, 35, 156, 157, 158, 159, 160, 161, 162, 163, 164, 165, 166, 167, 168, 169, 170, 171, 172, 173, 179, 180, 190] (by decide +kernel) (by decide +kernel)
set_option maxRecDepth 20000 in
theorem gX11_enter_X0_countedMarks : GoodIn wsX11_enter (wsV RX11 201 RX0 yX0_countedMarks wsX0_countedMarks) := goodIn_app (goodIn_of _ (by decide +kernel)) ggX11_enter_X0_countedMarks
theorem dX11_enter_0 : decode cX11_enter 0 = .ok (.aload_n 0, 1) := by decide +kernel
theorem dX11_enter_1 : decode cX11_enter 1 = .ok (.getfield 10, 3) := by decide +kernel
theorem dX11_enter_4 : decode cX11_enter 4 = .ok (.iload_n 2, 1) := by decide +kernel
theorem dX11_enter_5 : decode cX11_enter 5 = .ok (.invokevirtual 189, 3) := by decide +kernel
theorem dX11_enter_8 : decode cX11_enter 8 = .ok (.ifCond .eq 22, 3) := by decide +kernel
theorem dX11_enter_11 : decode cX11_enter 11 = .ok (.aload_n 0, 1) := by decide +kernel
theorem dX11_enter_12 : decode cX11_enter 12 = .ok (.getfield 10, 3) := by decide +kernel
theorem dX11_enter_15 : decode cX11_enter 15 = .ok (.getfield 87, 3) := by decide +kernel
theorem dX11_enter_18 : decode cX11_enter 18 = .ok (.iload_n 1, 1) := by decide +kernel
theorem dX11_enter_19 : decode cX11_enter 19 = .ok (.iload_n 2, 1) := by decide +kernel
theorem dX11_enter_20 : decode cX11_enter 20 = .ok (.invokevirtual 91, 3) := by decide +kernel
theorem dX11_enter_23 : decode cX11_enter 23 = .ok (.ifCond .ne 7, 3) := by decide +kernel
theorem dX11_enter_26 : decode cX11_enter 26 = .ok (.iconst 1, 1) := by decide +kernel
theorem dX11_enter_27 : decode cX11_enter 27 = .ok (.goto 4, 3) := by decide +kernel
theorem dX11_enter_30 : decode cX11_enter 30 = .ok (.iconst 0, 1) := by decide +kernel
theorem dX11_enter_31 : decode cX11_enter 31 = .ok (.invokestatic 51, 3) := by decide +kernel
theorem dX11_enter_34 : decode cX11_enter 34 = .ok (.aload_n 0, 1) := by decide +kernel
theorem dX11_enter_35 : decode cX11_enter 35 = .ok (.getfield 19, 3) := by decide +kernel
theorem dX11_enter_38 : decode cX11_enter 38 = .ok (.aload_n 0, 1) := by decide +kernel
theorem dX11_enter_39 : decode cX11_enter 39 = .ok (.getfield 10, 3) := by decide +kernel
theorem dX11_enter_42 : decode cX11_enter 42 = .ok (.invokevirtual 54, 3) := by decide +kernel
theorem dX11_enter_45 : decode cX11_enter 45 = .ok (.aload_n 0, 1) := by decide +kernel
theorem dX11_enter_46 : decode cX11_enter 46 = .ok (.getfield 10, 3) := by decide +kernel
theorem dX11_enter_49 : decode cX11_enter 49 = .ok (.invokevirtual 192, 3) := by decide +kernel
theorem dX11_enter_52 : decode cX11_enter 52 = .ok (.iload_n 1, 1) := by decide +kernel
theorem dX11_enter_53 : decode cX11_enter 53 = .ok (.iload_n 2, 1) := by decide +kernel
theorem dX11_enter_54 : decode cX11_enter 54 = .ok (.iload_n 3, 1) := by decide +kernel
theorem dX11_enter_55 : decode cX11_enter 55 = .ok (.invokevirtual 196, 3) := by decide +kernel
theorem dX11_enter_58 : decode cX11_enter 58 = .ok (.aload_n 0, 1) := by decide +kernel
theorem dX11_enter_59 : decode cX11_enter 59 = .ok (.getfield 10, 3) := by decide +kernel
theorem dX11_enter_62 : decode cX11_enter 62 = .ok (.iload_n 2, 1) := by decide +kernel
theorem dX11_enter_63 : decode cX11_enter 63 = .ok (.invokevirtual 201, 3) := by decide +kernel
theorem dX11_enter_66 : decode cX11_enter 66 = .ok (.ireturn, 1) := by decide +kernel
set_option maxRecDepth 20000 in
theorem ggX11_close_X0_canBeClosed : GoodIn wsX11_close wsX0_canBeClosed := goodIn_r _ [7, 8, 9, 10, 11, 12, 13, 14, 15, 16, 17, 18, 19, 6, 20, 21, 22, 23, 24, 25, 26, 27, 28, 29, 30, 31, 32, 33, 34, 35, 36, 37, 38, 39, 40, 41, 42, 43, 44, 45, 46, 47, 48, 49, 50, 51, 52, 53, 54, 55, 56, 57, 58, 59, 60, 61, 62, 361, 362, 363, 364, 365, 366, 367, 368, 369, 370, 371, 372, 373, 374, 375, 376, 377, 378, 379, 380, 381, 382, 383, 384, 385, 386] (by decide +kernel) (by decide +kernel)
set_option maxRecDepth 20000 in
theorem gX11_close_X0_canBeClosed : GoodIn wsX11_close (wsV RX11 204 RX0 yX0_canBeClosed wsX0_canBeClosed) := goodIn_app (goodIn_of _ (by decide +kernel)) ggX11_close_X0_canBeClosed
set_option maxRecDepth 20000 in
theorem ggX11_close_X11_requireState : GoodIn wsX11_close wsX11_requireState := goodIn_ca (goodIn_r _ [65, 66, 67] (by decide +kernel) (by decide +kernel)) (goodIn_sub (fun _ h => List.mem_cons_of_mem _ (List.mem_append_right _ h)) (by decide +kernel))
set_option maxRecDepth 20000 in
theorem gX11_close_X11_requireState : GoodIn wsX11_close (va_wsS RX11 51 yX11_requireState wsX11_requireState) := goodIn_app (goodIn_of _ (by decide +kernel)) ggX11_close_X11_requireState
set_option maxRecDepth 20000 in
theorem ggX11_close_X5_keep : GoodIn wsX11_close wsX5_keep := goodIn_r _ [72, 73, 74, 75, 76, 77, 71, 78, 79, 80, 81, 6, 82, 8, 83, 84, 85, 86, 87, 88, 89, 22, 9, 53, 21, 90, 91, 92, 93, 94, 95, 96, 97, 98, 99, 100, 30, 101, 102, 103, 104, 105, 106, 107, 108, 109, 110, 111, 112, 113, 114, 115, 116, 117, 118, 119, 120, 121, 122, 123, 124, 125, 126, 127, 35, 128, 37, 42, 129, 130, 131, 13, 132, 15, 133, 134, 16, 62, 135, 136, 137, 46, 138, 48, 139, 140, 141, 26, 142, 143, 144, 28, 145, 146, 387, 388, 361, 362, 363, 364, 365, 366, 367, 368, 369, 370, 371, 372, 373, 374, 389, 390, 391, 392, 393, 394, 395, 384, 385, 375, 376, 377, 378, 379, 386, 380, 381, 382, 383] (by decide +kernel) (by decide +kernel)
set_option maxRecDepth 20000 in
theorem gX11_close_X5_keep : GoodIn wsX11_close (wsV RX11 54 RX5 yX5_keep wsX5_keep) := goodIn_app (goodIn_of _ (by decide +kernel)) ggX11_close_X5_keep
set_option maxRecDepth 20000 in
theorem ggX11_close_X0_decideRound : GoodIn wsX11_close wsX0_decideRound := goodIn_r _ [150, 83, 151, 90, 152, 153, 154, 6, 155, 9, 88, 156, 157, 158, 159, 160, 161, 162, 163, 164, 165, 10, 11, 12, 13, 14, 15, 16, 166, 167, 168, 169, 170, 171, 172, 173, 22, 53, 174, 175, 104, 176, 85, 177, 178, 179, 35, 180, 37, 181, 103, 105, 182, 43, 44, 45, 46, 47, 48, 38, 39, 40, 41, 42, 183, 59, 60, 61, 62, 29, 30, 31, 184, 185, 186, 187, 188, 189, 190, 191, 192, 193, 194, 195, 196, 197, 198, 199, 200, 201, 202, 203, 204, 100, 101, 102, 106, 107, 108, 109, 205, 206, 207, 208, 21, 8, 209, 210, 211, 212, 87, 213, 214, 215, 216, 217, 218, 219, 220, 221, 222, 223, 113, 224, 116, 225, 226, 227, 228, 115, 229, 230, 231, 232, 233, 234, 235, 26, 236, 143, 144, 28, 145, 237, 238, 239, 240, 241, 242, 243, 244, 245, 246, 247, 248, 249, 250, 361, 362, 363, 364, 365, 366, 367, 368, 369, 370, 371, 372, 373, 374, 396, 397, 398, 399, 400, 401, 375, 376, 377, 378, 379, 384, 385, 386, 393, 394, 380, 381, 382, 383] (by decide +kernel) (by decide +kernel)
set_option maxRecDepth 20000 in
theorem gX11_close_X0_decideRound : GoodIn wsX11_close (wsV RX11 208 RX0 yX0_decideRound wsX0_decideRound) := goodIn_app (goodIn_of _ (by decide +kernel)) ggX11_close_X0_decideRound
set_option maxRecDepth 20000 in
theorem ggX11_close_X0_decideTieRound : GoodIn wsX11_close wsX0_decideTieRound := goodIn_r _ [254, 21, 255, 256, 257, 6, 258, 151, 87, 22, 156, 157, 158, 159, 160, 161, 162, 163, 164, 165, 23, 24, 25, 26, 27, 28, 29, 30, 31, 259, 260, 261, 35, 262, 263, 178, 179, 180, 37, 181, 103, 104, 105, 182, 175, 176, 43, 44, 45, 46, 47, 48, 38, 39, 40, 41, 42, 184, 185, 186, 187, 188, 189, 190, 191, 192, 193, 194, 195, 196, 197, 198, 199, 200, 201, 202, 203, 204, 205, 206, 207, 208, 8, 209, 210, 211, 212, 213, 214, 215, 216, 217, 218, 219, 220, 221, 222, 223, 113, 224, 116, 225, 226, 227, 228, 115, 229, 230, 231, 232, 233, 234, 235, 236, 143, 144, 145, 237, 238, 239, 240, 241, 242, 243, 244, 245, 246, 247, 248, 249, 250, 264, 265, 266, 267, 9, 268, 10, 11, 12, 13, 14, 15, 16, 269, 361, 362, 363, 364, 365, 366, 367, 368, 369, 370, 371, 372, 373, 374, 380, 381, 382, 383, 393, 394, 396, 397, 398, 399, 400, 401, 384, 385, 386, 375, 376, 377, 378, 379] (by decide +kernel) (by decide +kernel)
set_option maxRecDepth 20000 in
theorem gX11_close_X0_decideTieRound : GoodIn wsX11_close (wsV RX11 211 RX0 yX0_decideTieRound wsX0_decideTieRound) := goodIn_app (goodIn_of _ (by decide +kernel)) ggX11_close_X0_decideTieRound
set_option maxRecDepth 20000 in
theorem ggX11_close_X0_goOn : GoodIn wsX11_close wsX0_goOn := goodIn_r _ [273, 21, 83, 84, 8, 274, 275, 276, 26, 277, 143, 144, 28, 145, 278, 163, 164, 165, 246, 247, 248, 46, 249, 48, 250, 279, 280, 281, 6, 282, 9, 53, 87, 89, 88, 86, 283, 284, 285, 13, 286, 15, 133, 62, 287, 288, 289, 290, 291, 113, 292, 116, 225, 226, 227, 228, 115, 293, 294, 295, 122, 296, 297, 298, 299, 300, 301, 302, 303, 304, 124, 305, 306, 307, 308, 309, 310, 311, 94, 312, 99, 313, 314, 315, 316, 96, 317, 318, 319, 320, 321, 322, 323, 324, 98, 325, 326, 327, 328, 329, 175, 104, 176, 330, 331, 332, 333, 97, 334, 335, 336, 337, 338, 339, 340, 341, 342, 343, 344, 345, 16, 221, 222, 223, 224, 346, 347, 348, 349, 134, 350, 351, 352, 353, 354, 355, 356, 357, 29, 30, 31, 361, 362, 363, 364, 365, 366, 367, 368, 369, 370, 371, 372, 373, 374, 380, 381, 382, 383, 386, 393, 394, 375, 376, 377, 378, 379, 395, 389, 390, 391, 392] (by decide +kernel) (by decide +kernel)
set_option maxRecDepth 20000 in
theorem gX11_close_X0_goOn : GoodIn wsX11_close (wsV RX11 214 RX0 yX0_goOn wsX0_goOn) := goodIn_app (goodIn_of _ (by decide +kernel)) ggX11_close_X0_goOn
theorem dX11_close_0 : decode cX11_close 0 = .ok (.aload_n 0, 1) := by decide +kernel
theorem dX11_close_1 : decode cX11_close 1 = .ok (.getfield 10, 3) := by decide +kernel
theorem dX11_close_4 : decode cX11_close 4 = .ok (.invokevirtual 204, 3) := by decide +kernel
theorem dX11_close_7 : decode cX11_close 7 = .ok (.invokestatic 51, 3) := by decide +kernel
theorem dX11_close_10 : decode cX11_close 10 = .ok (.aload_n 0, 1) := by decide +kernel
theorem dX11_close_11 : decode cX11_close 11 = .ok (.getfield 19, 3) := by decide +kernel
theorem dX11_close_14 : decode cX11_close 14 = .ok (.aload_n 0, 1) := by decide +kernel
theorem dX11_close_15 : decode cX11_close 15 = .ok (.getfield 10, 3) := by decide +kernel
theorem dX11_close_18 : decode cX11_close 18 = .ok (.invokevirtual 54, 3) := by decide +kernel
theorem dX11_close_21 : decode cX11_close 21 = .ok (.aload_n 0, 1) := by decide +kernel
theorem dX11_close_22 : decode cX11_close 22 = .ok (.getfield 10, 3) := by decide +kernel
theorem dX11_close_25 : decode cX11_close 25 = .ok (.getfield 38, 3) := by decide +kernel
theorem dX11_close_28 : decode cX11_close 28 = .ok (.iconst 1, 1) := by decide +kernel
theorem dX11_close_29 : decode cX11_close 29 = .ok (.if_icmp .ne 13, 3) := by decide +kernel
theorem dX11_close_32 : decode cX11_close 32 = .ok (.aload_n 0, 1) := by decide +kernel
theorem dX11_close_33 : decode cX11_close 33 = .ok (.getfield 10, 3) := by decide +kernel
theorem dX11_close_36 : decode cX11_close 36 = .ok (.invokevirtual 208, 3) := by decide +kernel
theorem dX11_close_39 : decode cX11_close 39 = .ok (.goto 10, 3) := by decide +kernel
theorem dX11_close_42 : decode cX11_close 42 = .ok (.aload_n 0, 1) := by decide +kernel
theorem dX11_close_43 : decode cX11_close 43 = .ok (.getfield 10, 3) := by decide +kernel
theorem dX11_close_46 : decode cX11_close 46 = .ok (.invokevirtual 211, 3) := by decide +kernel
theorem dX11_close_49 : decode cX11_close 49 = .ok (.istore_n 1, 1) := by decide +kernel
theorem dX11_close_50 : decode cX11_close 50 = .ok (.iload_n 1, 1) := by decide +kernel
theorem dX11_close_51 : decode cX11_close 51 = .ok (.ifCond .eq 10, 3) := by decide +kernel
theorem dX11_close_54 : decode cX11_close 54 = .ok (.aload_n 0, 1) := by decide +kernel
theorem dX11_close_55 : decode cX11_close 55 = .ok (.getfield 10, 3) := by decide +kernel
theorem dX11_close_58 : decode cX11_close 58 = .ok (.invokevirtual 214, 3) := by decide +kernel
theorem dX11_close_61 : decode cX11_close 61 = .ok (.aload_n 0, 1) := by decide +kernel
theorem dX11_close_62 : decode cX11_close 62 = .ok (.getfield 10, 3) := by decide +kernel
theorem dX11_close_65 : decode cX11_close 65 = .ok (.getfield 38, 3) := by decide +kernel
theorem dX11_close_68 : decode cX11_close 68 = .ok (.ireturn, 1) := by decide +kernel
set_option maxRecDepth 20000 in
theorem ggX11_withdraw_X11_requireEntrant : GoodIn wsX11_withdraw wsX11_requireEntrant := goodIn_ca (goodIn_r _ [7, 1, 8, 9, 10, 11, 12, 13, 14, 15, 6, 16, 17, 18, 162, 163, 164, 165, 166, 167, 168, 169, 170, 171, 172, 173, 174, 175, 176, 177, 178, 179, 180] (by decide +kernel) (by decide +kernel)) (goodIn_sub (fun _ h => List.mem_cons_of_mem _ (List.mem_append_left _ (List.mem_append_right _ h))) (by decide +kernel))
set_option maxRecDepth 20000 in
theorem gX11_withdraw_X11_requireEntrant : GoodIn wsX11_withdraw (wsV RX11 217 RX11 yX11_requireEntrant wsX11_requireEntrant) := goodIn_app (goodIn_of _ (by decide +kernel)) ggX11_withdraw_X11_requireEntrant
set_option maxRecDepth 20000 in
theorem ggX11_withdraw_X2_isIn : GoodIn wsX11_withdraw wsX2_isIn := goodIn_r _ [22, 23, 24, 9, 10, 11, 12, 13, 179, 180] (by decide +kernel) (by decide +kernel)
set_option maxRecDepth 20000 in
theorem gX11_withdraw_X2_isIn : GoodIn wsX11_withdraw (wsV RX11 220 RX2 yX2_isIn wsX2_isIn) := goodIn_app (goodIn_of _ (by decide +kernel)) ggX11_withdraw_X2_isIn
set_option maxRecDepth 20000 in
theorem ggX11_withdraw_X11_requireState : GoodIn wsX11_withdraw wsX11_requireState := goodIn_ca (goodIn_r _ [27, 28, 29] (by decide +kernel) (by decide +kernel)) (goodIn_sub (fun _ h => List.mem_cons_of_mem _ (List.mem_append_right _ h)) (by decide +kernel))
set_option maxRecDepth 20000 in
theorem gX11_withdraw_X11_requireState : GoodIn wsX11_withdraw (va_wsS RX11 51 yX11_requireState wsX11_requireState) := goodIn_app (goodIn_of _ (by decide +kernel)) ggX11_withdraw_X11_requireState
set_option maxRecDepth 20000 in
theorem ggX11_withdraw_X7_hasPlayed : GoodIn wsX11_withdraw wsX7_hasPlayed := goodIn_r _ [34, 35, 36, 37, 33, 38, 39, 40, 6, 41, 181, 182, 183, 184, 185] (by decide +kernel) (by decide +kernel)
set_option maxRecDepth 20000 in
theorem gX11_withdraw_X7_hasPlayed : GoodIn wsX11_withdraw (wsV RX11 223 RX7 yX7_hasPlayed wsX7_hasPlayed) := goodIn_app (goodIn_of _ (by decide +kernel)) ggX11_withdraw_X7_hasPlayed
set_option maxRecDepth 20000 in
theorem ggX11_withdraw_X5_keep : GoodIn wsX11_withdraw wsX5_keep := goodIn_r _ [46, 47, 48, 49, 50, 51, 45, 52, 53, 54, 55, 56, 57, 58, 59, 60, 61, 62, 63, 64, 65, 66, 67, 68, 69, 70, 71, 72, 73, 74, 75, 76, 77, 78, 79, 80, 6, 81, 82, 83, 84, 85, 86, 87, 88, 89, 90, 91, 92, 11, 93, 13, 23, 94, 95, 96, 97, 98, 99, 100, 101, 102, 103, 104, 105, 106, 107, 108, 109, 110, 111, 33, 112, 113, 114, 115, 116, 39, 117, 118, 119, 120, 121, 122, 123, 124, 125, 126, 127, 128, 129, 130, 131, 132, 186, 187, 165, 166, 167, 168, 169, 170, 171, 172, 173, 174, 175, 176, 177, 178, 188, 189, 190, 191, 179, 180, 192, 193, 194, 181, 182, 183, 184, 185, 195, 196, 197, 198, 199] (by decide +kernel) (by decide +kernel)
set_option maxRecDepth 20000 in
theorem gX11_withdraw_X5_keep : GoodIn wsX11_withdraw (wsV RX11 54 RX5 yX5_keep wsX5_keep) := goodIn_app (goodIn_of _ (by decide +kernel)) ggX11_withdraw_X5_keep
set_option maxRecDepth 20000 in
theorem ggX11_withdraw_X0_letGo : GoodIn wsX11_withdraw wsX0_letGo := goodIn_r _ [136, 63, 67, 58, 137, 138, 139, 11, 140, 23, 24, 9, 10, 12, 13, 141, 142, 143, 33, 144, 113, 145, 146, 147, 148, 149, 150, 151, 152, 116, 153, 154, 155, 156, 40, 6, 41, 165, 166, 167, 168, 169, 170, 171, 172, 173, 174, 175, 176, 177, 178, 181, 182, 183, 184, 185, 179, 180] (by decide +kernel) (by decide +kernel)
set_option maxRecDepth 20000 in
theorem gX11_withdraw_X0_letGo : GoodIn wsX11_withdraw (wsV RX11 226 RX0 yX0_letGo wsX0_letGo) := goodIn_app (goodIn_of _ (by decide +kernel)) ggX11_withdraw_X0_letGo
set_option maxRecDepth 20000 in
theorem ggX11_withdraw_X2_countIn : GoodIn wsX11_withdraw wsX2_countIn := goodIn_r _ [160, 13, 161, 20, 21, 11, 22, 23, 24, 9, 10, 12, 179, 180] (by decide +kernel) (by decide +kernel)
set_option maxRecDepth 20000 in
theorem gX11_withdraw_X2_countIn : GoodIn wsX11_withdraw (wsV RX11 229 RX2 yX2_countIn wsX2_countIn) := goodIn_app (goodIn_of _ (by decide +kernel)) ggX11_withdraw_X2_countIn
theorem dX11_withdraw_0 : decode cX11_withdraw 0 = .ok (.aload_n 0, 1) := by decide +kernel
theorem dX11_withdraw_1 : decode cX11_withdraw 1 = .ok (.iload_n 1, 1) := by decide +kernel
theorem dX11_withdraw_2 : decode cX11_withdraw 2 = .ok (.invokevirtual 217, 3) := by decide +kernel
theorem dX11_withdraw_5 : decode cX11_withdraw 5 = .ok (.aload_n 0, 1) := by decide +kernel
theorem dX11_withdraw_6 : decode cX11_withdraw 6 = .ok (.getfield 10, 3) := by decide +kernel
theorem dX11_withdraw_9 : decode cX11_withdraw 9 = .ok (.getfield 73, 3) := by decide +kernel
theorem dX11_withdraw_12 : decode cX11_withdraw 12 = .ok (.iload_n 1, 1) := by decide +kernel
theorem dX11_withdraw_13 : decode cX11_withdraw 13 = .ok (.invokevirtual 220, 3) := by decide +kernel
theorem dX11_withdraw_16 : decode cX11_withdraw 16 = .ok (.invokestatic 51, 3) := by decide +kernel
theorem dX11_withdraw_19 : decode cX11_withdraw 19 = .ok (.aload_n 0, 1) := by decide +kernel
theorem dX11_withdraw_20 : decode cX11_withdraw 20 = .ok (.getfield 10, 3) := by decide +kernel
theorem dX11_withdraw_23 : decode cX11_withdraw 23 = .ok (.getfield 38, 3) := by decide +kernel
theorem dX11_withdraw_26 : decode cX11_withdraw 26 = .ok (.ifCond .eq 28, 3) := by decide +kernel
theorem dX11_withdraw_29 : decode cX11_withdraw 29 = .ok (.aload_n 0, 1) := by decide +kernel
theorem dX11_withdraw_30 : decode cX11_withdraw 30 = .ok (.getfield 10, 3) := by decide +kernel
theorem dX11_withdraw_33 : decode cX11_withdraw 33 = .ok (.getfield 38, 3) := by decide +kernel
theorem dX11_withdraw_36 : decode cX11_withdraw 36 = .ok (.iconst 1, 1) := by decide +kernel
theorem dX11_withdraw_37 : decode cX11_withdraw 37 = .ok (.if_icmp .ne 21, 3) := by decide +kernel
theorem dX11_withdraw_40 : decode cX11_withdraw 40 = .ok (.aload_n 0, 1) := by decide +kernel
theorem dX11_withdraw_41 : decode cX11_withdraw 41 = .ok (.getfield 10, 3) := by decide +kernel
theorem dX11_withdraw_44 : decode cX11_withdraw 44 = .ok (.getfield 164, 3) := by decide +kernel
theorem dX11_withdraw_47 : decode cX11_withdraw 47 = .ok (.iload_n 1, 1) := by decide +kernel
theorem dX11_withdraw_48 : decode cX11_withdraw 48 = .ok (.invokevirtual 223, 3) := by decide +kernel
theorem dX11_withdraw_51 : decode cX11_withdraw 51 = .ok (.ifCond .ne 7, 3) := by decide +kernel
theorem dX11_withdraw_54 : decode cX11_withdraw 54 = .ok (.iconst 1, 1) := by decide +kernel
theorem dX11_withdraw_55 : decode cX11_withdraw 55 = .ok (.goto 4, 3) := by decide +kernel
theorem dX11_withdraw_58 : decode cX11_withdraw 58 = .ok (.iconst 0, 1) := by decide +kernel
theorem dX11_withdraw_59 : decode cX11_withdraw 59 = .ok (.invokestatic 51, 3) := by decide +kernel
theorem dX11_withdraw_62 : decode cX11_withdraw 62 = .ok (.aload_n 0, 1) := by decide +kernel
theorem dX11_withdraw_63 : decode cX11_withdraw 63 = .ok (.getfield 19, 3) := by decide +kernel
theorem dX11_withdraw_66 : decode cX11_withdraw 66 = .ok (.aload_n 0, 1) := by decide +kernel
theorem dX11_withdraw_67 : decode cX11_withdraw 67 = .ok (.getfield 10, 3) := by decide +kernel
theorem dX11_withdraw_70 : decode cX11_withdraw 70 = .ok (.invokevirtual 54, 3) := by decide +kernel
theorem dX11_withdraw_73 : decode cX11_withdraw 73 = .ok (.aload_n 0, 1) := by decide +kernel
theorem dX11_withdraw_74 : decode cX11_withdraw 74 = .ok (.getfield 10, 3) := by decide +kernel
theorem dX11_withdraw_77 : decode cX11_withdraw 77 = .ok (.iload_n 1, 1) := by decide +kernel
theorem dX11_withdraw_78 : decode cX11_withdraw 78 = .ok (.invokevirtual 226, 3) := by decide +kernel
theorem dX11_withdraw_81 : decode cX11_withdraw 81 = .ok (.aload_n 0, 1) := by decide +kernel
theorem dX11_withdraw_82 : decode cX11_withdraw 82 = .ok (.getfield 10, 3) := by decide +kernel
theorem dX11_withdraw_85 : decode cX11_withdraw 85 = .ok (.getfield 73, 3) := by decide +kernel
theorem dX11_withdraw_88 : decode cX11_withdraw 88 = .ok (.invokevirtual 229, 3) := by decide +kernel
theorem dX11_withdraw_91 : decode cX11_withdraw 91 = .ok (.ireturn, 1) := by decide +kernel
set_option maxRecDepth 20000 in
theorem ggX11_info_X11_isBetween : GoodIn wsX11_info wsX11_isBetween := goodIn_r _ [5] (by decide +kernel) (by decide +kernel)
set_option maxRecDepth 20000 in
theorem gX11_info_X11_isBetween : GoodIn wsX11_info (va_wsS RX11 30 yX11_isBetween wsX11_isBetween) := goodIn_app (goodIn_of _ (by decide +kernel)) ggX11_info_X11_isBetween
set_option maxRecDepth 20000 in
theorem ggX11_info_X11_requireArgument : GoodIn wsX11_info wsX11_requireArgument := goodIn_ca (goodIn_r _ [8, 9, 10] (by decide +kernel) (by decide +kernel)) (goodIn_sub (fun _ h => List.mem_cons_of_mem _ (List.mem_append_right _ h)) (by decide +kernel))
set_option maxRecDepth 20000 in
theorem gX11_info_X11_requireArgument : GoodIn wsX11_info (va_wsS RX11 34 yX11_requireArgument wsX11_requireArgument) := goodIn_app (goodIn_of _ (by decide +kernel)) ggX11_info_X11_requireArgument
set_option maxRecDepth 20000 in
theorem ggX11_info_X0_tell : GoodIn wsX11_info wsX0_tell := goodIn_r _ [15, 16, 17, 18, 19, 20, 21, 22, 23, 24, 25, 26, 27, 28, 29, 30, 31, 32, 33, 34, 35, 36, 37, 38, 39, 40, 41, 42, 43, 44, 45, 49, 50, 51, 52, 53, 54, 55, 56, 57, 58, 59, 60, 61, 62, 63, 64, 65, 66, 67, 68, 69, 70, 71, 72, 73, 74, 75, 76, 77, 78, 79] (by decide +kernel) (by decide +kernel)
set_option maxRecDepth 20000 in
theorem gX11_info_X0_tell : GoodIn wsX11_info (wsV RX11 108 RX0 yX0_tell wsX0_tell) := goodIn_app (goodIn_of _ (by decide +kernel)) ggX11_info_X0_tell
theorem dX11_info_0 : decode cX11_info 0 = .ok (.iload_n 1, 1) := by decide +kernel
theorem dX11_info_1 : decode cX11_info 1 = .ok (.iconst 0, 1) := by decide +kernel
theorem dX11_info_2 : decode cX11_info 2 = .ok (.bipush 12, 2) := by decide +kernel
theorem dX11_info_4 : decode cX11_info 4 = .ok (.invokestatic 30, 3) := by decide +kernel
theorem dX11_info_7 : decode cX11_info 7 = .ok (.invokestatic 34, 3) := by decide +kernel
theorem dX11_info_10 : decode cX11_info 10 = .ok (.aload_n 0, 1) := by decide +kernel
theorem dX11_info_11 : decode cX11_info 11 = .ok (.getfield 10, 3) := by decide +kernel
theorem dX11_info_14 : decode cX11_info 14 = .ok (.iload_n 1, 1) := by decide +kernel
theorem dX11_info_15 : decode cX11_info 15 = .ok (.invokevirtual 108, 3) := by decide +kernel
theorem dX11_info_18 : decode cX11_info 18 = .ok (.ireturn, 1) := by decide +kernel
set_option maxRecDepth 20000 in
theorem ggX11_entrant_X11_requireEntrant : GoodIn wsX11_entrant wsX11_requireEntrant := goodIn_ca (goodIn_r _ [6, 1, 7, 8, 9, 10, 11, 12, 13, 14, 5, 15, 16, 17, 133, 134, 135, 136, 137, 138, 139, 140, 141, 142, 143, 144, 145, 146, 147, 148, 149, 150, 151] (by decide +kernel) (by decide +kernel)) (goodIn_sub (fun _ h => List.mem_cons_of_mem _ (List.mem_append_left _ (List.mem_append_right _ h))) (by decide +kernel))
set_option maxRecDepth 20000 in
theorem gX11_entrant_X11_requireEntrant : GoodIn wsX11_entrant (wsV RX11 217 RX11 yX11_requireEntrant wsX11_requireEntrant) := goodIn_app (goodIn_of _ (by decide +kernel)) ggX11_entrant_X11_requireEntrant
set_option maxRecDepth 20000 in
theorem ggX11_entrant_X11_isBetween : GoodIn wsX11_entrant wsX11_isBetween := goodIn_r _ [20] (by decide +kernel) (by decide +kernel)
set_option maxRecDepth 20000 in
theorem gX11_entrant_X11_isBetween : GoodIn wsX11_entrant (va_wsS RX11 30 yX11_isBetween wsX11_isBetween) := goodIn_app (goodIn_of _ (by decide +kernel)) ggX11_entrant_X11_isBetween
set_option maxRecDepth 20000 in
theorem ggX11_entrant_X11_requireArgument : GoodIn wsX11_entrant wsX11_requireArgument := goodIn_ca (goodIn_r _ [23, 24, 25] (by decide +kernel) (by decide +kernel)) (goodIn_sub (fun _ h => List.mem_cons_of_mem _ (List.mem_append_right _ h)) (by decide +kernel))
set_option maxRecDepth 20000 in
theorem gX11_entrant_X11_requireArgument : GoodIn wsX11_entrant (va_wsS RX11 34 yX11_requireArgument wsX11_requireArgument) := goodIn_app (goodIn_of _ (by decide +kernel)) ggX11_entrant_X11_requireArgument
set_option maxRecDepth 20000 in
theorem ggX11_entrant_X0_tellOfEntrant : GoodIn wsX11_entrant wsX0_tellOfEntrant := goodIn_r _ [30, 31, 32, 33, 34, 35, 36, 37, 10, 38, 39, 40, 8, 9, 11, 12, 41, 42, 43, 44, 45, 46, 47, 48, 49, 50, 51, 52, 53, 54, 55, 56, 19, 5, 20, 57, 58, 59, 29, 60, 61, 62, 63, 64, 65, 66, 67, 68, 69, 70, 71, 72, 73, 74, 75, 76, 77, 78, 79, 80, 81, 82, 83, 84, 85, 86, 87, 88, 89, 90, 91, 92, 93, 94, 95, 96, 97, 98, 99, 100, 101, 102, 103, 104, 105, 106, 107, 108, 109, 110, 111, 112, 113, 114, 115, 116, 117, 118, 119, 120, 121, 122, 123, 124, 125, 126, 127, 128, 129, 130, 131, 132, 136, 137, 138, 139, 140, 141, 142, 143, 144, 145, 146, 147, 148, 149, 152, 153, 154, 155, 150, 151, 156, 157, 158, 159, 160, 161, 162, 163] (by decide +kernel) (by decide +kernel)
set_option maxRecDepth 20000 in
theorem gX11_entrant_X0_tellOfEntrant : GoodIn wsX11_entrant (wsV RX11 232 RX0 yX0_tellOfEntrant wsX0_tellOfEntrant) := goodIn_app (goodIn_of _ (by decide +kernel)) ggX11_entrant_X0_tellOfEntrant
theorem dX11_entrant_0 : decode cX11_entrant 0 = .ok (.aload_n 0, 1) := by decide +kernel
theorem dX11_entrant_1 : decode cX11_entrant 1 = .ok (.iload_n 1, 1) := by decide +kernel
theorem dX11_entrant_2 : decode cX11_entrant 2 = .ok (.invokevirtual 217, 3) := by decide +kernel
theorem dX11_entrant_5 : decode cX11_entrant 5 = .ok (.iload_n 2, 1) := by decide +kernel
theorem dX11_entrant_6 : decode cX11_entrant 6 = .ok (.iconst 0, 1) := by decide +kernel
theorem dX11_entrant_7 : decode cX11_entrant 7 = .ok (.bipush 7, 2) := by decide +kernel
theorem dX11_entrant_9 : decode cX11_entrant 9 = .ok (.invokestatic 30, 3) := by decide +kernel
theorem dX11_entrant_12 : decode cX11_entrant 12 = .ok (.invokestatic 34, 3) := by decide +kernel
theorem dX11_entrant_15 : decode cX11_entrant 15 = .ok (.aload_n 0, 1) := by decide +kernel
theorem dX11_entrant_16 : decode cX11_entrant 16 = .ok (.getfield 10, 3) := by decide +kernel
theorem dX11_entrant_19 : decode cX11_entrant 19 = .ok (.iload_n 1, 1) := by decide +kernel
theorem dX11_entrant_20 : decode cX11_entrant 20 = .ok (.iload_n 2, 1) := by decide +kernel
theorem dX11_entrant_21 : decode cX11_entrant 21 = .ok (.invokevirtual 232, 3) := by decide +kernel
theorem dX11_entrant_24 : decode cX11_entrant 24 = .ok (.ireturn, 1) := by decide +kernel
set_option maxRecDepth 20000 in
theorem ggX11_marked_X11_requireJurorAndEntrant : GoodIn wsX11_marked wsX11_requireJurorAndEntrant := goodIn_ca (goodIn_r _ [6, 1, 7, 8, 9, 10, 11, 12, 13, 14, 5, 15, 16, 17, 18, 19, 20, 21, 22, 23, 24, 25, 26, 27, 34, 35, 36, 37, 38, 39, 40, 41, 42, 43, 44, 45, 46, 47, 48, 49, 50, 55, 56, 57, 58] (by decide +kernel) (by decide +kernel)) (goodIn_sub (fun _ h => List.mem_cons_of_mem _ (List.mem_append_right _ h)) (by decide +kernel))
set_option maxRecDepth 20000 in
theorem gX11_marked_X11_requireJurorAndEntrant : GoodIn wsX11_marked (wsV RX11 83 RX11 yX11_requireJurorAndEntrant wsX11_requireJurorAndEntrant) := goodIn_app (goodIn_of _ (by decide +kernel)) ggX11_marked_X11_requireJurorAndEntrant
set_option maxRecDepth 20000 in
theorem ggX11_marked_X6_at : GoodIn wsX11_marked wsX6_at := goodIn_r _ [32, 33, 59] (by decide +kernel) (by decide +kernel)
set_option maxRecDepth 20000 in
theorem gX11_marked_X6_at : GoodIn wsX11_marked (wsV RX11 245 RX6 yX6_at wsX6_at) := goodIn_app (goodIn_of _ (by decide +kernel)) ggX11_marked_X6_at
theorem dX11_marked_0 : decode cX11_marked 0 = .ok (.aload_n 0, 1) := by decide +kernel
theorem dX11_marked_1 : decode cX11_marked 1 = .ok (.iload_n 1, 1) := by decide +kernel
theorem dX11_marked_2 : decode cX11_marked 2 = .ok (.iload_n 2, 1) := by decide +kernel
theorem dX11_marked_3 : decode cX11_marked 3 = .ok (.invokevirtual 83, 3) := by decide +kernel
theorem dX11_marked_6 : decode cX11_marked 6 = .ok (.iload_n 3, 1) := by decide +kernel
theorem dX11_marked_7 : decode cX11_marked 7 = .ok (.ifCond .eq 21, 3) := by decide +kernel
theorem dX11_marked_10 : decode cX11_marked 10 = .ok (.aload_n 0, 1) := by decide +kernel
theorem dX11_marked_11 : decode cX11_marked 11 = .ok (.getfield 10, 3) := by decide +kernel
theorem dX11_marked_14 : decode cX11_marked 14 = .ok (.getfield 235, 3) := by decide +kernel
theorem dX11_marked_17 : decode cX11_marked 17 = .ok (.getfield 239, 3) := by decide +kernel
theorem dX11_marked_20 : decode cX11_marked 20 = .ok (.iload_n 1, 1) := by decide +kernel
theorem dX11_marked_21 : decode cX11_marked 21 = .ok (.iload_n 2, 1) := by decide +kernel
theorem dX11_marked_22 : decode cX11_marked 22 = .ok (.invokevirtual 245, 3) := by decide +kernel
theorem dX11_marked_25 : decode cX11_marked 25 = .ok (.goto 15, 3) := by decide +kernel
theorem dX11_marked_28 : decode cX11_marked 28 = .ok (.aload_n 0, 1) := by decide +kernel
theorem dX11_marked_29 : decode cX11_marked 29 = .ok (.getfield 10, 3) := by decide +kernel
theorem dX11_marked_32 : decode cX11_marked 32 = .ok (.getfield 248, 3) := by decide +kernel
theorem dX11_marked_35 : decode cX11_marked 35 = .ok (.iload_n 1, 1) := by decide +kernel
theorem dX11_marked_36 : decode cX11_marked 36 = .ok (.iload_n 2, 1) := by decide +kernel
theorem dX11_marked_37 : decode cX11_marked 37 = .ok (.invokevirtual 245, 3) := by decide +kernel
theorem dX11_marked_40 : decode cX11_marked 40 = .ok (.ireturn, 1) := by decide +kernel
set_option maxRecDepth 20000 in
theorem ggX11_history_X11_requireEntrantAndRound : GoodIn wsX11_history wsX11_requireEntrantAndRound := goodIn_ca (goodIn_r _ [6, 7, 8, 9, 5, 10, 1, 11, 12, 13, 14, 15, 16, 17, 18, 19, 20, 21, 22, 23, 24, 25, 26, 27, 28, 29, 30, 31, 32, 33, 34, 35, 36, 37, 38, 39, 40, 41, 42, 43, 44, 45, 46] (by decide +kernel) (by decide +kernel)) (goodIn_sub (fun _ h => List.mem_cons_of_mem _ (List.mem_append_right _ h)) (by decide +kernel))
set_option maxRecDepth 20000 in
theorem gX11_history_X11_requireEntrantAndRound : GoodIn wsX11_history (wsV RX11 129 RX11 yX11_requireEntrantAndRound wsX11_requireEntrantAndRound) := goodIn_app (goodIn_of _ (by decide +kernel)) ggX11_history_X11_requireEntrantAndRound
theorem dX11_history_0 : decode cX11_history 0 = .ok (.aload_n 0, 1) := by decide +kernel
theorem dX11_history_1 : decode cX11_history 1 = .ok (.iload_n 1, 1) := by decide +kernel
theorem dX11_history_2 : decode cX11_history 2 = .ok (.iload_n 2, 1) := by decide +kernel
theorem dX11_history_3 : decode cX11_history 3 = .ok (.invokevirtual 129, 3) := by decide +kernel
theorem dX11_history_6 : decode cX11_history 6 = .ok (.aload_n 0, 1) := by decide +kernel
theorem dX11_history_7 : decode cX11_history 7 = .ok (.getfield 10, 3) := by decide +kernel
theorem dX11_history_10 : decode cX11_history 10 = .ok (.getfield 249, 3) := by decide +kernel
theorem dX11_history_13 : decode cX11_history 13 = .ok (.iload_n 2, 1) := by decide +kernel
theorem dX11_history_14 : decode cX11_history 14 = .ok (.aaload, 1) := by decide +kernel
theorem dX11_history_15 : decode cX11_history 15 = .ok (.iload_n 1, 1) := by decide +kernel
theorem dX11_history_16 : decode cX11_history 16 = .ok (.iaload, 1) := by decide +kernel
theorem dX11_history_17 : decode cX11_history 17 = .ok (.ireturn, 1) := by decide +kernel
set_option maxRecDepth 20000 in
theorem ggX11_stage_X7_playerAt : GoodIn wsX11_stage wsX7_playerAt := goodIn_r _ [6, 7, 8, 26, 27, 28, 29, 30] (by decide +kernel) (by decide +kernel)
set_option maxRecDepth 20000 in
theorem gX11_stage_X7_playerAt : GoodIn wsX11_stage (wsV RX11 252 RX7 yX7_playerAt wsX7_playerAt) := goodIn_app (goodIn_of _ (by decide +kernel)) ggX11_stage_X7_playerAt
theorem dX11_stage_0 : decode cX11_stage 0 = .ok (.aload_n 0, 1) := by decide +kernel
theorem dX11_stage_1 : decode cX11_stage 1 = .ok (.getfield 10, 3) := by decide +kernel
theorem dX11_stage_4 : decode cX11_stage 4 = .ok (.getfield 164, 3) := by decide +kernel
theorem dX11_stage_7 : decode cX11_stage 7 = .ok (.iload_n 1, 1) := by decide +kernel
theorem dX11_stage_8 : decode cX11_stage 8 = .ok (.invokevirtual 252, 3) := by decide +kernel
theorem dX11_stage_11 : decode cX11_stage 11 = .ok (.ireturn, 1) := by decide +kernel
set_option maxRecDepth 20000 in
theorem ggX11_wouldBe_X11_isBetween : GoodIn wsX11_wouldBe wsX11_isBetween := goodIn_r _ [5] (by decide +kernel) (by decide +kernel)
set_option maxRecDepth 20000 in
theorem gX11_wouldBe_X11_isBetween : GoodIn wsX11_wouldBe (va_wsS RX11 30 yX11_isBetween wsX11_isBetween) := goodIn_app (goodIn_of _ (by decide +kernel)) ggX11_wouldBe_X11_isBetween
set_option maxRecDepth 20000 in
theorem ggX11_wouldBe_X11_requireArgument : GoodIn wsX11_wouldBe wsX11_requireArgument := goodIn_ca (goodIn_r _ [8, 9, 10] (by decide +kernel) (by decide +kernel)) (goodIn_sub (fun _ h => List.mem_cons_of_mem _ (List.mem_append_right _ h)) (by decide +kernel))
set_option maxRecDepth 20000 in
theorem gX11_wouldBe_X11_requireArgument : GoodIn wsX11_wouldBe (va_wsS RX11 34 yX11_requireArgument wsX11_requireArgument) := goodIn_app (goodIn_of _ (by decide +kernel)) ggX11_wouldBe_X11_requireArgument
set_option maxRecDepth 20000 in
theorem ggX11_wouldBe_X0_canBeClosed : GoodIn wsX11_wouldBe wsX0_canBeClosed := goodIn_r _ [15, 16, 17, 18, 19, 20, 21, 22, 23, 24, 25, 26, 27, 14, 28, 29, 30, 31, 32, 33, 34, 35, 36, 3, 4, 5, 37, 38, 39, 40, 41, 42, 43, 44, 45, 46, 47, 48, 49, 50, 51, 52, 53, 54, 55, 56, 57, 58, 59, 60, 61, 62, 63, 64, 65, 66, 67, 139, 140, 141, 142, 143, 144, 145, 146, 147, 148, 149, 150, 151, 152, 153, 154, 155, 156, 157, 158, 159, 160, 161, 162, 163, 164] (by decide +kernel) (by decide +kernel)
set_option maxRecDepth 20000 in
theorem gX11_wouldBe_X0_canBeClosed : GoodIn wsX11_wouldBe (wsV RX11 204 RX0 yX0_canBeClosed wsX0_canBeClosed) := goodIn_app (goodIn_of _ (by decide +kernel)) ggX11_wouldBe_X0_canBeClosed
set_option maxRecDepth 20000 in
theorem ggX11_wouldBe_X0_judgeRound : GoodIn wsX11_wouldBe wsX0_judgeRound := goodIn_r _ [71, 72, 17, 73, 74, 75, 76, 77, 78, 79, 80, 81, 82, 83, 84, 18, 19, 20, 21, 22, 23, 24, 85, 86, 87, 14, 88, 89, 90, 91, 92, 30, 58, 93, 94, 95, 96, 97, 98, 99, 100, 40, 101, 42, 102, 103, 104, 105, 48, 49, 50, 51, 52, 53, 43, 44, 45, 46, 47, 106, 64, 65, 66, 67, 3, 4, 5, 107, 108, 109, 110, 111, 112, 113, 114, 115, 116, 117, 118, 119, 120, 121, 122, 123, 124, 125, 126, 127, 139, 140, 141, 142, 143, 144, 145, 146, 147, 148, 149, 150, 151, 152, 153, 154, 155, 156, 157, 165, 166, 167, 168, 169, 170, 162, 163, 164] (by decide +kernel) (by decide +kernel)
set_option maxRecDepth 20000 in
theorem gX11_wouldBe_X0_judgeRound : GoodIn wsX11_wouldBe (wsV RX11 255 RX0 yX0_judgeRound wsX0_judgeRound) := goodIn_app (goodIn_of _ (by decide +kernel)) ggX11_wouldBe_X0_judgeRound
set_option maxRecDepth 20000 in
theorem ggX11_wouldBe_X1_countOf : GoodIn wsX11_wouldBe wsX1_countOf := goodIn_r _ [131, 117, 118, 119, 132, 133, 134, 78, 135, 115, 165, 166, 167, 168, 169, 170] (by decide +kernel) (by decide +kernel)
set_option maxRecDepth 20000 in
theorem gX11_wouldBe_X1_countOf : GoodIn wsX11_wouldBe (wsV RX11 262 RX1 yX1_countOf wsX1_countOf) := goodIn_app (goodIn_of _ (by decide +kernel)) ggX11_wouldBe_X1_countOf
theorem dX11_wouldBe_0 : decode cX11_wouldBe 0 = .ok (.iload_n 1, 1) := by decide +kernel
theorem dX11_wouldBe_1 : decode cX11_wouldBe 1 = .ok (.iconst 0, 1) := by decide +kernel
theorem dX11_wouldBe_2 : decode cX11_wouldBe 2 = .ok (.iconst 2, 1) := by decide +kernel
theorem dX11_wouldBe_3 : decode cX11_wouldBe 3 = .ok (.invokestatic 30, 3) := by decide +kernel
theorem dX11_wouldBe_6 : decode cX11_wouldBe 6 = .ok (.invokestatic 34, 3) := by decide +kernel
theorem dX11_wouldBe_9 : decode cX11_wouldBe 9 = .ok (.aload_n 0, 1) := by decide +kernel
theorem dX11_wouldBe_10 : decode cX11_wouldBe 10 = .ok (.getfield 10, 3) := by decide +kernel
theorem dX11_wouldBe_13 : decode cX11_wouldBe 13 = .ok (.getfield 38, 3) := by decide +kernel
theorem dX11_wouldBe_16 : decode cX11_wouldBe 16 = .ok (.iconst 1, 1) := by decide +kernel
theorem dX11_wouldBe_17 : decode cX11_wouldBe 17 = .ok (.if_icmp .ne 13, 3) := by decide +kernel
theorem dX11_wouldBe_20 : decode cX11_wouldBe 20 = .ok (.aload_n 0, 1) := by decide +kernel
theorem dX11_wouldBe_21 : decode cX11_wouldBe 21 = .ok (.getfield 10, 3) := by decide +kernel
theorem dX11_wouldBe_24 : decode cX11_wouldBe 24 = .ok (.invokevirtual 204, 3) := by decide +kernel
theorem dX11_wouldBe_27 : decode cX11_wouldBe 27 = .ok (.ifCond .ne 5, 3) := by decide +kernel
theorem dX11_wouldBe_30 : decode cX11_wouldBe 30 = .ok (.iconst (-1), 1) := by decide +kernel
theorem dX11_wouldBe_31 : decode cX11_wouldBe 31 = .ok (.ireturn, 1) := by decide +kernel
theorem dX11_wouldBe_32 : decode cX11_wouldBe 32 = .ok (.aload_n 0, 1) := by decide +kernel
theorem dX11_wouldBe_33 : decode cX11_wouldBe 33 = .ok (.getfield 10, 3) := by decide +kernel
theorem dX11_wouldBe_36 : decode cX11_wouldBe 36 = .ok (.invokevirtual 255, 3) := by decide +kernel
theorem dX11_wouldBe_39 : decode cX11_wouldBe 39 = .ok (.aload_n 0, 1) := by decide +kernel
theorem dX11_wouldBe_40 : decode cX11_wouldBe 40 = .ok (.getfield 10, 3) := by decide +kernel
theorem dX11_wouldBe_43 : decode cX11_wouldBe 43 = .ok (.getfield 258, 3) := by decide +kernel
theorem dX11_wouldBe_46 : decode cX11_wouldBe 46 = .ok (.iload_n 1, 1) := by decide +kernel
theorem dX11_wouldBe_47 : decode cX11_wouldBe 47 = .ok (.invokevirtual 262, 3) := by decide +kernel
theorem dX11_wouldBe_50 : decode cX11_wouldBe 50 = .ok (.ireturn, 1) := by decide +kernel
set_option maxRecDepth 20000 in
theorem ggX11_neededMark_X11_requireJurorAndEntrant : GoodIn wsX11_neededMark wsX11_requireJurorAndEntrant := goodIn_ca (goodIn_r _ [7, 2, 8, 9, 10, 11, 12, 13, 14, 15, 6, 16, 17, 18, 19, 20, 21, 22, 23, 24, 25, 26, 27, 28, 86, 87, 88, 89, 90, 91, 92, 93, 94, 95, 96, 97, 98, 99, 100, 101, 102, 103, 104, 105, 106] (by decide +kernel) (by decide +kernel)) (goodIn_sub (fun _ h => List.mem_cons_of_mem _ (List.mem_append_left _ (List.mem_append_left _ (List.mem_append_right _ h)))) (by decide +kernel))
set_option maxRecDepth 20000 in
theorem gX11_neededMark_X11_requireJurorAndEntrant : GoodIn wsX11_neededMark (wsV RX11 83 RX11 yX11_requireJurorAndEntrant wsX11_requireJurorAndEntrant) := goodIn_app (goodIn_of _ (by decide +kernel)) ggX11_neededMark_X11_requireJurorAndEntrant
set_option maxRecDepth 20000 in
theorem ggX11_neededMark_X11_isBetween : GoodIn wsX11_neededMark wsX11_isBetween := goodIn_r _ [31] (by decide +kernel) (by decide +kernel)
set_option maxRecDepth 20000 in
theorem gX11_neededMark_X11_isBetween : GoodIn wsX11_neededMark (va_wsS RX11 30 yX11_isBetween wsX11_isBetween) := goodIn_app (goodIn_of _ (by decide +kernel)) ggX11_neededMark_X11_isBetween
set_option maxRecDepth 20000 in
theorem ggX11_neededMark_X11_requireArgument : GoodIn wsX11_neededMark wsX11_requireArgument := goodIn_ca (goodIn_r _ [34, 35, 36] (by decide +kernel) (by decide +kernel)) (goodIn_sub (fun _ h => List.mem_cons_of_mem _ (List.mem_append_left _ (List.mem_append_right _ h))) (by decide +kernel))
set_option maxRecDepth 20000 in
theorem gX11_neededMark_X11_requireArgument : GoodIn wsX11_neededMark (va_wsS RX11 34 yX11_requireArgument wsX11_requireArgument) := goodIn_app (goodIn_of _ (by decide +kernel)) ggX11_neededMark_X11_requireArgument
set_option maxRecDepth 20000 in
theorem ggX11_neededMark_X11_requireState : GoodIn wsX11_neededMark wsX11_requireState := goodIn_ca (goodIn_r _ [39, 40, 41] (by decide +kernel) (by decide +kernel)) (goodIn_sub (fun _ h => List.mem_cons_of_mem _ (List.mem_append_right _ h)) (by decide +kernel))
set_option maxRecDepth 20000 in
theorem gX11_neededMark_X11_requireState : GoodIn wsX11_neededMark (va_wsS RX11 51 yX11_requireState wsX11_requireState) := goodIn_app (goodIn_of _ (by decide +kernel)) ggX11_neededMark_X11_requireState
set_option maxRecDepth 20000 in
theorem ggX11_neededMark_X7_hasPlayed : GoodIn wsX11_neededMark wsX7_hasPlayed := goodIn_r _ [46, 47, 48, 49, 45, 50, 51, 30, 6, 31, 107, 108, 109, 110, 111] (by decide +kernel) (by decide +kernel)
set_option maxRecDepth 20000 in
theorem gX11_neededMark_X7_hasPlayed : GoodIn wsX11_neededMark (wsV RX11 223 RX7 yX7_hasPlayed wsX7_hasPlayed) := goodIn_app (goodIn_of _ (by decide +kernel)) ggX11_neededMark_X7_hasPlayed
set_option maxRecDepth 20000 in
theorem ggX11_neededMark_X3_isBarred : GoodIn wsX11_neededMark wsX3_isBarred := goodIn_r _ [55, 56, 103, 104] (by decide +kernel) (by decide +kernel)
set_option maxRecDepth 20000 in
theorem gX11_neededMark_X3_isBarred : GoodIn wsX11_neededMark (wsV RX11 91 RX3 yX3_isBarred wsX3_isBarred) := goodIn_app (goodIn_of _ (by decide +kernel)) ggX11_neededMark_X3_isBarred
set_option maxRecDepth 20000 in
theorem ggX11_neededMark_X0_scoreWith : GoodIn wsX11_neededMark wsX0_scoreWith := goodIn_r _ [61, 62, 63, 64, 65, 66, 67, 68, 69, 70, 71, 72, 11, 73, 13, 74, 75, 76, 77, 78, 79, 80, 81, 82, 83, 84, 53, 54, 55, 56, 85, 48, 49, 45, 50, 51, 30, 6, 31, 89, 90, 91, 92, 93, 94, 95, 96, 97, 98, 99, 100, 101, 102, 103, 104, 112, 107, 108, 109, 110, 111] (by decide +kernel) (by decide +kernel)
set_option maxRecDepth 20000 in
theorem gX11_neededMark_X0_scoreWith : GoodIn wsX11_neededMark (wsV RX11 268 RX0 yX0_scoreWith wsX0_scoreWith) := goodIn_app (goodIn_of _ (by decide +kernel)) ggX11_neededMark_X0_scoreWith
theorem dX11_neededMark_0 : decode cX11_neededMark 0 = .ok (.aload_n 0, 1) := by decide +kernel
theorem dX11_neededMark_1 : decode cX11_neededMark 1 = .ok (.iload_n 1, 1) := by decide +kernel
theorem dX11_neededMark_2 : decode cX11_neededMark 2 = .ok (.iload_n 2, 1) := by decide +kernel
theorem dX11_neededMark_3 : decode cX11_neededMark 3 = .ok (.invokevirtual 83, 3) := by decide +kernel
theorem dX11_neededMark_6 : decode cX11_neededMark 6 = .ok (.iload_n 3, 1) := by decide +kernel
theorem dX11_neededMark_7 : decode cX11_neededMark 7 = .ok (.iconst 0, 1) := by decide +kernel
theorem dX11_neededMark_8 : decode cX11_neededMark 8 = .ok (.ldc_w 267, 3) := by decide +kernel
theorem dX11_neededMark_11 : decode cX11_neededMark 11 = .ok (.invokestatic 30, 3) := by decide +kernel
theorem dX11_neededMark_14 : decode cX11_neededMark 14 = .ok (.invokestatic 34, 3) := by decide +kernel
theorem dX11_neededMark_17 : decode cX11_neededMark 17 = .ok (.aload_n 0, 1) := by decide +kernel
theorem dX11_neededMark_18 : decode cX11_neededMark 18 = .ok (.getfield 10, 3) := by decide +kernel
theorem dX11_neededMark_21 : decode cX11_neededMark 21 = .ok (.getfield 38, 3) := by decide +kernel
theorem dX11_neededMark_24 : decode cX11_neededMark 24 = .ok (.iconst 1, 1) := by decide +kernel
theorem dX11_neededMark_25 : decode cX11_neededMark 25 = .ok (.if_icmp .ne 7, 3) := by decide +kernel
theorem dX11_neededMark_28 : decode cX11_neededMark 28 = .ok (.iconst 1, 1) := by decide +kernel
theorem dX11_neededMark_29 : decode cX11_neededMark 29 = .ok (.goto 4, 3) := by decide +kernel
theorem dX11_neededMark_32 : decode cX11_neededMark 32 = .ok (.iconst 0, 1) := by decide +kernel
theorem dX11_neededMark_33 : decode cX11_neededMark 33 = .ok (.invokestatic 51, 3) := by decide +kernel
theorem dX11_neededMark_36 : decode cX11_neededMark 36 = .ok (.aload_n 0, 1) := by decide +kernel
theorem dX11_neededMark_37 : decode cX11_neededMark 37 = .ok (.getfield 10, 3) := by decide +kernel
theorem dX11_neededMark_40 : decode cX11_neededMark 40 = .ok (.getfield 164, 3) := by decide +kernel
theorem dX11_neededMark_43 : decode cX11_neededMark 43 = .ok (.iload_n 2, 1) := by decide +kernel
theorem dX11_neededMark_44 : decode cX11_neededMark 44 = .ok (.invokevirtual 223, 3) := by decide +kernel
theorem dX11_neededMark_47 : decode cX11_neededMark 47 = .ok (.ifCond .eq 22, 3) := by decide +kernel
theorem dX11_neededMark_50 : decode cX11_neededMark 50 = .ok (.aload_n 0, 1) := by decide +kernel
theorem dX11_neededMark_51 : decode cX11_neededMark 51 = .ok (.getfield 10, 3) := by decide +kernel
theorem dX11_neededMark_54 : decode cX11_neededMark 54 = .ok (.getfield 87, 3) := by decide +kernel
theorem dX11_neededMark_57 : decode cX11_neededMark 57 = .ok (.iload_n 1, 1) := by decide +kernel
theorem dX11_neededMark_58 : decode cX11_neededMark 58 = .ok (.iload_n 2, 1) := by decide +kernel
theorem dX11_neededMark_59 : decode cX11_neededMark 59 = .ok (.invokevirtual 91, 3) := by decide +kernel
theorem dX11_neededMark_62 : decode cX11_neededMark 62 = .ok (.ifCond .ne 7, 3) := by decide +kernel
theorem dX11_neededMark_65 : decode cX11_neededMark 65 = .ok (.iconst 1, 1) := by decide +kernel
theorem dX11_neededMark_66 : decode cX11_neededMark 66 = .ok (.goto 4, 3) := by decide +kernel
theorem dX11_neededMark_69 : decode cX11_neededMark 69 = .ok (.iconst 0, 1) := by decide +kernel
theorem dX11_neededMark_70 : decode cX11_neededMark 70 = .ok (.invokestatic 51, 3) := by decide +kernel
theorem dX11_neededMark_73 : decode cX11_neededMark 73 = .ok (.iconst 0, 1) := by decide +kernel
theorem dX11_neededMark_74 : decode cX11_neededMark 74 = .ok (.istore 4, 2) := by decide +kernel
theorem dX11_neededMark_76 : decode cX11_neededMark 76 = .ok (.iload 4, 2) := by decide +kernel
theorem dX11_neededMark_78 : decode cX11_neededMark 78 = .ok (.bipush 100, 2) := by decide +kernel
theorem dX11_neededMark_80 : decode cX11_neededMark 80 = .ok (.if_icmp .gt 27, 3) := by decide +kernel
theorem dX11_neededMark_83 : decode cX11_neededMark 83 = .ok (.aload_n 0, 1) := by decide +kernel
theorem dX11_neededMark_84 : decode cX11_neededMark 84 = .ok (.getfield 10, 3) := by decide +kernel
theorem dX11_neededMark_87 : decode cX11_neededMark 87 = .ok (.iload_n 1, 1) := by decide +kernel
theorem dX11_neededMark_88 : decode cX11_neededMark 88 = .ok (.iload_n 2, 1) := by decide +kernel
theorem dX11_neededMark_89 : decode cX11_neededMark 89 = .ok (.iload 4, 2) := by decide +kernel
theorem dX11_neededMark_91 : decode cX11_neededMark 91 = .ok (.invokevirtual 268, 3) := by decide +kernel
theorem dX11_neededMark_94 : decode cX11_neededMark 94 = .ok (.iload_n 3, 1) := by decide +kernel
theorem dX11_neededMark_95 : decode cX11_neededMark 95 = .ok (.if_icmp .lt 6, 3) := by decide +kernel
theorem dX11_neededMark_98 : decode cX11_neededMark 98 = .ok (.iload 4, 2) := by decide +kernel
theorem dX11_neededMark_100 : decode cX11_neededMark 100 = .ok (.ireturn, 1) := by decide +kernel
theorem dX11_neededMark_101 : decode cX11_neededMark 101 = .ok (.iinc 4 1, 3) := by decide +kernel
theorem dX11_neededMark_104 : decode cX11_neededMark 104 = .ok (.goto (-28), 3) := by decide +kernel
theorem dX11_neededMark_107 : decode cX11_neededMark 107 = .ok (.iconst (-1), 1) := by decide +kernel
theorem dX11_neededMark_108 : decode cX11_neededMark 108 = .ok (.ireturn, 1) := by decide +kernel
set_option maxRecDepth 20000 in
theorem ggX11_strangestJuror_X0_distanceOf : GoodIn wsX11_strangestJuror wsX0_distanceOf := goodIn_r _ [6, 7, 8, 9, 10, 11, 12, 13, 14, 15, 16, 17, 18, 19, 20, 21, 22, 23, 24, 25, 26, 27, 28, 29, 30, 31, 32, 33, 34, 35, 36, 37, 38, 39, 40, 41, 42, 43, 44, 45, 46, 47, 48, 49, 53, 54, 55, 56, 57, 58, 59, 60, 61, 62, 63, 64, 65, 66, 69, 70, 71, 72, 73, 67, 68, 74] (by decide +kernel) (by decide +kernel)
set_option maxRecDepth 20000 in
theorem gX11_strangestJuror_X0_distanceOf : GoodIn wsX11_strangestJuror (wsV RX11 274 RX0 yX0_distanceOf wsX0_distanceOf) := goodIn_app (goodIn_of _ (by decide +kernel)) ggX11_strangestJuror_X0_distanceOf
theorem dX11_strangestJuror_0 : decode cX11_strangestJuror 0 = .ok (.aload_n 0, 1) := by decide +kernel
theorem dX11_strangestJuror_1 : decode cX11_strangestJuror 1 = .ok (.getfield 10, 3) := by decide +kernel
theorem dX11_strangestJuror_4 : decode cX11_strangestJuror 4 = .ok (.getfield 38, 3) := by decide +kernel
theorem dX11_strangestJuror_7 : decode cX11_strangestJuror 7 = .ok (.iconst 1, 1) := by decide +kernel
theorem dX11_strangestJuror_8 : decode cX11_strangestJuror 8 = .ok (.if_icmp .eq 5, 3) := by decide +kernel
theorem dX11_strangestJuror_11 : decode cX11_strangestJuror 11 = .ok (.iconst (-1), 1) := by decide +kernel
theorem dX11_strangestJuror_12 : decode cX11_strangestJuror 12 = .ok (.ireturn, 1) := by decide +kernel
theorem dX11_strangestJuror_13 : decode cX11_strangestJuror 13 = .ok (.iconst (-1), 1) := by decide +kernel
theorem dX11_strangestJuror_14 : decode cX11_strangestJuror 14 = .ok (.istore_n 1, 1) := by decide +kernel
theorem dX11_strangestJuror_15 : decode cX11_strangestJuror 15 = .ok (.iconst (-1), 1) := by decide +kernel
theorem dX11_strangestJuror_16 : decode cX11_strangestJuror 16 = .ok (.istore_n 2, 1) := by decide +kernel
theorem dX11_strangestJuror_17 : decode cX11_strangestJuror 17 = .ok (.iconst 0, 1) := by decide +kernel
theorem dX11_strangestJuror_18 : decode cX11_strangestJuror 18 = .ok (.istore_n 3, 1) := by decide +kernel
theorem dX11_strangestJuror_19 : decode cX11_strangestJuror 19 = .ok (.iload_n 3, 1) := by decide +kernel
theorem dX11_strangestJuror_20 : decode cX11_strangestJuror 20 = .ok (.aload_n 0, 1) := by decide +kernel
theorem dX11_strangestJuror_21 : decode cX11_strangestJuror 21 = .ok (.getfield 10, 3) := by decide +kernel
theorem dX11_strangestJuror_24 : decode cX11_strangestJuror 24 = .ok (.getfield 87, 3) := by decide +kernel
theorem dX11_strangestJuror_27 : decode cX11_strangestJuror 27 = .ok (.getfield 271, 3) := by decide +kernel
theorem dX11_strangestJuror_30 : decode cX11_strangestJuror 30 = .ok (.if_icmp .ge 30, 3) := by decide +kernel
theorem dX11_strangestJuror_33 : decode cX11_strangestJuror 33 = .ok (.aload_n 0, 1) := by decide +kernel
theorem dX11_strangestJuror_34 : decode cX11_strangestJuror 34 = .ok (.getfield 10, 3) := by decide +kernel
theorem dX11_strangestJuror_37 : decode cX11_strangestJuror 37 = .ok (.iload_n 3, 1) := by decide +kernel
theorem dX11_strangestJuror_38 : decode cX11_strangestJuror 38 = .ok (.invokevirtual 274, 3) := by decide +kernel
theorem dX11_strangestJuror_41 : decode cX11_strangestJuror 41 = .ok (.istore 4, 2) := by decide +kernel
theorem dX11_strangestJuror_43 : decode cX11_strangestJuror 43 = .ok (.iload 4, 2) := by decide +kernel
theorem dX11_strangestJuror_45 : decode cX11_strangestJuror 45 = .ok (.iload_n 2, 1) := by decide +kernel
theorem dX11_strangestJuror_46 : decode cX11_strangestJuror 46 = .ok (.if_icmp .le 8, 3) := by decide +kernel
theorem dX11_strangestJuror_49 : decode cX11_strangestJuror 49 = .ok (.iload 4, 2) := by decide +kernel
theorem dX11_strangestJuror_51 : decode cX11_strangestJuror 51 = .ok (.istore_n 2, 1) := by decide +kernel
theorem dX11_strangestJuror_52 : decode cX11_strangestJuror 52 = .ok (.iload_n 3, 1) := by decide +kernel
theorem dX11_strangestJuror_53 : decode cX11_strangestJuror 53 = .ok (.istore_n 1, 1) := by decide +kernel
theorem dX11_strangestJuror_54 : decode cX11_strangestJuror 54 = .ok (.iinc 3 1, 3) := by decide +kernel
theorem dX11_strangestJuror_57 : decode cX11_strangestJuror 57 = .ok (.goto (-38), 3) := by decide +kernel
theorem dX11_strangestJuror_60 : decode cX11_strangestJuror 60 = .ok (.iload_n 1, 1) := by decide +kernel
theorem dX11_strangestJuror_61 : decode cX11_strangestJuror 61 = .ok (.ireturn, 1) := by decide +kernel
set_option maxRecDepth 20000 in
theorem ggX11_type_X11_isBetween : GoodIn wsX11_type wsX11_isBetween := goodIn_r _ [5] (by decide +kernel) (by decide +kernel)
set_option maxRecDepth 20000 in
theorem gX11_type_X11_isBetween : GoodIn wsX11_type (va_wsS RX11 30 yX11_isBetween wsX11_isBetween) := goodIn_app (goodIn_of _ (by decide +kernel)) ggX11_type_X11_isBetween
set_option maxRecDepth 20000 in
theorem ggX11_type_X11_requireArgument : GoodIn wsX11_type wsX11_requireArgument := goodIn_ca (goodIn_r _ [8, 9, 10] (by decide +kernel) (by decide +kernel)) (goodIn_sub (fun _ h => List.mem_cons_of_mem _ (List.mem_append_left _ (List.mem_append_right _ h))) (by decide +kernel))
set_option maxRecDepth 20000 in
theorem gX11_type_X11_requireArgument : GoodIn wsX11_type (va_wsS RX11 34 yX11_requireArgument wsX11_requireArgument) := goodIn_app (goodIn_of _ (by decide +kernel)) ggX11_type_X11_requireArgument
set_option maxRecDepth 20000 in
theorem ggX11_type_X11_requireState : GoodIn wsX11_type wsX11_requireState := goodIn_ca (goodIn_r _ [13, 14, 15] (by decide +kernel) (by decide +kernel)) (goodIn_sub (fun _ h => List.mem_cons_of_mem _ (List.mem_append_right _ h)) (by decide +kernel))
set_option maxRecDepth 20000 in
theorem gX11_type_X11_requireState : GoodIn wsX11_type (va_wsS RX11 51 yX11_requireState wsX11_requireState) := goodIn_app (goodIn_of _ (by decide +kernel)) ggX11_type_X11_requireState
set_option maxRecDepth 20000 in
theorem ggX11_type_X8_append : GoodIn wsX11_type wsX8_append := goodIn_r _ [20, 21, 22, 26, 27, 28, 29, 30] (by decide +kernel) (by decide +kernel)
set_option maxRecDepth 20000 in
theorem gX11_type_X8_append : GoodIn wsX11_type (wsV RX11 280 RX8 yX8_append wsX8_append) := goodIn_app (goodIn_of _ (by decide +kernel)) ggX11_type_X8_append
theorem dX11_type_0 : decode cX11_type 0 = .ok (.iload_n 1, 1) := by decide +kernel
theorem dX11_type_1 : decode cX11_type 1 = .ok (.bipush 32, 2) := by decide +kernel
theorem dX11_type_3 : decode cX11_type 3 = .ok (.bipush 126, 2) := by decide +kernel
theorem dX11_type_5 : decode cX11_type 5 = .ok (.invokestatic 30, 3) := by decide +kernel
theorem dX11_type_8 : decode cX11_type 8 = .ok (.invokestatic 34, 3) := by decide +kernel
theorem dX11_type_11 : decode cX11_type 11 = .ok (.aload_n 0, 1) := by decide +kernel
theorem dX11_type_12 : decode cX11_type 12 = .ok (.getfield 26, 3) := by decide +kernel
theorem dX11_type_15 : decode cX11_type 15 = .ok (.getfield 277, 3) := by decide +kernel
theorem dX11_type_18 : decode cX11_type 18 = .ok (.bipush 40, 2) := by decide +kernel
theorem dX11_type_20 : decode cX11_type 20 = .ok (.if_icmp .ge 7, 3) := by decide +kernel
theorem dX11_type_23 : decode cX11_type 23 = .ok (.iconst 1, 1) := by decide +kernel
theorem dX11_type_24 : decode cX11_type 24 = .ok (.goto 4, 3) := by decide +kernel
theorem dX11_type_27 : decode cX11_type 27 = .ok (.iconst 0, 1) := by decide +kernel
theorem dX11_type_28 : decode cX11_type 28 = .ok (.invokestatic 51, 3) := by decide +kernel
theorem dX11_type_31 : decode cX11_type 31 = .ok (.aload_n 0, 1) := by decide +kernel
theorem dX11_type_32 : decode cX11_type 32 = .ok (.getfield 26, 3) := by decide +kernel
theorem dX11_type_35 : decode cX11_type 35 = .ok (.iload_n 1, 1) := by decide +kernel
theorem dX11_type_36 : decode cX11_type 36 = .ok (.invokevirtual 280, 3) := by decide +kernel
theorem dX11_type_39 : decode cX11_type 39 = .ok (.ireturn, 1) := by decide +kernel
theorem dX11_clearText_0 : decode cX11_clearText 0 = .ok (.aload_n 0, 1) := by decide +kernel
theorem dX11_clearText_1 : decode cX11_clearText 1 = .ok (.getfield 26, 3) := by decide +kernel
theorem dX11_clearText_4 : decode cX11_clearText 4 = .ok (.getfield 277, 3) := by decide +kernel
theorem dX11_clearText_7 : decode cX11_clearText 7 = .ok (.istore_n 1, 1) := by decide +kernel
theorem dX11_clearText_8 : decode cX11_clearText 8 = .ok (.aload_n 0, 1) := by decide +kernel
theorem dX11_clearText_9 : decode cX11_clearText 9 = .ok (.getfield 26, 3) := by decide +kernel
theorem dX11_clearText_12 : decode cX11_clearText 12 = .ok (.iconst 0, 1) := by decide +kernel
theorem dX11_clearText_13 : decode cX11_clearText 13 = .ok (.putfield 277, 3) := by decide +kernel
theorem dX11_clearText_16 : decode cX11_clearText 16 = .ok (.iload_n 1, 1) := by decide +kernel
theorem dX11_clearText_17 : decode cX11_clearText 17 = .ok (.ireturn, 1) := by decide +kernel
set_option maxRecDepth 20000 in
theorem ggX11_fault_X8_faultAmong : GoodIn wsX11_fault wsX8_faultAmong := goodIn_r _ [7, 8, 9, 10, 11, 12, 13, 6, 14, 15, 16, 17, 18, 19, 20, 21, 22, 23, 24, 25, 26, 27, 49, 50, 51, 52, 53] (by decide +kernel) (by decide +kernel)
set_option maxRecDepth 20000 in
theorem gX11_fault_X8_faultAmong : GoodIn wsX11_fault (wsV RX11 132 RX8 yX8_faultAmong wsX8_faultAmong) := goodIn_app (goodIn_of _ (by decide +kernel)) ggX11_fault_X8_faultAmong
theorem dX11_fault_0 : decode cX11_fault 0 = .ok (.aload_n 0, 1) := by decide +kernel
theorem dX11_fault_1 : decode cX11_fault 1 = .ok (.getfield 26, 3) := by decide +kernel
theorem dX11_fault_4 : decode cX11_fault 4 = .ok (.aload_n 0, 1) := by decide +kernel
theorem dX11_fault_5 : decode cX11_fault 5 = .ok (.getfield 10, 3) := by decide +kernel
theorem dX11_fault_8 : decode cX11_fault 8 = .ok (.getfield 42, 3) := by decide +kernel
theorem dX11_fault_11 : decode cX11_fault 11 = .ok (.getfield 46, 3) := by decide +kernel
theorem dX11_fault_14 : decode cX11_fault 14 = .ok (.invokevirtual 132, 3) := by decide +kernel
theorem dX11_fault_17 : decode cX11_fault 17 = .ok (.ireturn, 1) := by decide +kernel
set_option maxRecDepth 20000 in
theorem ggX11_undo_X11_requireState : GoodIn wsX11_undo wsX11_requireState := goodIn_ca (goodIn_r _ [6, 7, 8] (by decide +kernel) (by decide +kernel)) (goodIn_sub (fun _ h => List.mem_cons_of_mem _ (List.mem_append_right _ h)) (by decide +kernel))
set_option maxRecDepth 20000 in
theorem gX11_undo_X11_requireState : GoodIn wsX11_undo (va_wsS RX11 51 yX11_requireState wsX11_requireState) := goodIn_app (goodIn_of _ (by decide +kernel)) ggX11_undo_X11_requireState
set_option maxRecDepth 20000 in
theorem ggX11_undo_X5_restore : GoodIn wsX11_undo wsX5_restore := goodIn_r _ [13, 14, 15, 16, 17, 18, 19, 20, 21, 22, 23, 24, 25, 26, 27, 28, 29, 30, 31, 32, 33, 34, 35, 36, 37, 38, 39, 40, 41, 42, 43, 5, 44, 45, 46, 47, 48, 49, 50, 51, 52, 53, 54, 55, 56, 57, 58, 59, 60, 61, 62, 63, 64, 65, 66, 67, 68, 69, 70, 71, 72, 73, 74, 75, 76, 77, 78, 79, 80, 81, 82, 83, 84, 85, 86, 87, 88, 89, 90, 91, 92, 93, 94, 95, 96, 97, 98, 99, 100, 104, 105, 106, 107, 108, 109, 110, 111, 112, 113, 114, 115, 116, 117, 118, 119, 120, 121, 122, 123, 124, 125, 126, 127, 128, 129, 130, 131, 132, 133, 134, 135, 136, 137, 138] (by decide +kernel) (by decide +kernel)
set_option maxRecDepth 20000 in
theorem gX11_undo_X5_restore : GoodIn wsX11_undo (wsV RX11 283 RX5 yX5_restore wsX5_restore) := goodIn_app (goodIn_of _ (by decide +kernel)) ggX11_undo_X5_restore
theorem dX11_undo_0 : decode cX11_undo 0 = .ok (.aload_n 0, 1) := by decide +kernel
theorem dX11_undo_1 : decode cX11_undo 1 = .ok (.getfield 19, 3) := by decide +kernel
theorem dX11_undo_4 : decode cX11_undo 4 = .ok (.getfield 282, 3) := by decide +kernel
theorem dX11_undo_7 : decode cX11_undo 7 = .ok (.ifCond .le 7, 3) := by decide +kernel
theorem dX11_undo_10 : decode cX11_undo 10 = .ok (.iconst 1, 1) := by decide +kernel
theorem dX11_undo_11 : decode cX11_undo 11 = .ok (.goto 4, 3) := by decide +kernel
theorem dX11_undo_14 : decode cX11_undo 14 = .ok (.iconst 0, 1) := by decide +kernel
theorem dX11_undo_15 : decode cX11_undo 15 = .ok (.invokestatic 51, 3) := by decide +kernel
theorem dX11_undo_18 : decode cX11_undo 18 = .ok (.aload_n 0, 1) := by decide +kernel
theorem dX11_undo_19 : decode cX11_undo 19 = .ok (.getfield 19, 3) := by decide +kernel
theorem dX11_undo_22 : decode cX11_undo 22 = .ok (.aload_n 0, 1) := by decide +kernel
theorem dX11_undo_23 : decode cX11_undo 23 = .ok (.getfield 10, 3) := by decide +kernel
theorem dX11_undo_26 : decode cX11_undo 26 = .ok (.invokevirtual 283, 3) := by decide +kernel
theorem dX11_undo_29 : decode cX11_undo 29 = .ok (.ireturn, 1) := by decide +kernel
set_option maxRecDepth 20000 in
theorem ggX11_checksum_X0_tell : GoodIn wsX11_checksum wsX0_tell := goodIn_r _ [9, 10, 11, 12, 13, 14, 15, 16, 17, 18, 19, 20, 21, 22, 23, 24, 25, 26, 27, 28, 29, 30, 31, 32, 33, 34, 35, 36, 37, 38, 39, 244, 245, 246, 247, 248, 249, 250, 251, 252, 253, 254, 255, 256, 257, 272, 273, 274, 275, 276, 277, 258, 259, 260, 261, 262, 263, 264, 278, 279, 280, 281] (by decide +kernel) (by decide +kernel)
set_option maxRecDepth 20000 in
theorem gX11_checksum_X0_tell : GoodIn wsX11_checksum (wsV RX11 108 RX0 yX0_tell wsX0_tell) := goodIn_app (goodIn_of _ (by decide +kernel)) ggX11_checksum_X0_tell
set_option maxRecDepth 20000 in
theorem ggX11_checksum_X11_mix : GoodIn wsX11_checksum wsX11_mix := goodIn_r _ [43, 44] (by decide +kernel) (by decide +kernel)
set_option maxRecDepth 20000 in
theorem gX11_checksum_X11_mix : GoodIn wsX11_checksum (va_wsS RX11 289 yX11_mix wsX11_mix) := goodIn_app (goodIn_of _ (by decide +kernel)) ggX11_checksum_X11_mix
set_option maxRecDepth 20000 in
theorem ggX11_checksum_X11_mixWorks : GoodIn wsX11_checksum wsX11_mixWorks := goodIn_r _ [48, 2, 49, 50, 51, 52, 53, 54, 55, 56, 57, 58, 59, 60, 61, 62, 63, 64, 65, 66, 67, 68, 69, 70, 71, 72, 73, 40, 41, 42, 43, 44, 241, 242, 243, 244, 245, 246, 247, 248, 249, 250, 251, 252, 253, 254, 255, 256, 257, 274, 275, 276, 277] (by decide +kernel) (by decide +kernel)
set_option maxRecDepth 20000 in
theorem gX11_checksum_X11_mixWorks : GoodIn wsX11_checksum (wsV RX11 293 RX11 yX11_mixWorks wsX11_mixWorks) := goodIn_app (goodIn_of _ (by decide +kernel)) ggX11_checksum_X11_mixWorks
set_option maxRecDepth 20000 in
theorem ggX11_checksum_X11_mixRules : GoodIn wsX11_checksum wsX11_mixRules := goodIn_r _ [77, 2, 40, 41, 42, 43, 44, 241, 242, 243, 244, 245, 246, 247, 248, 249, 250, 251, 252, 253, 254, 255, 256, 257] (by decide +kernel) (by decide +kernel)
set_option maxRecDepth 20000 in
theorem gX11_checksum_X11_mixRules : GoodIn wsX11_checksum (wsV RX11 297 RX11 yX11_mixRules wsX11_mixRules) := goodIn_app (goodIn_of _ (by decide +kernel)) ggX11_checksum_X11_mixRules
set_option maxRecDepth 20000 in
theorem ggX11_checksum_X11_mixEntrant : GoodIn wsX11_checksum wsX11_mixEntrant := goodIn_r _ [81, 2, 82, 83, 84, 8, 85, 16, 17, 18, 10, 86, 26, 27, 22, 28, 29, 30, 31, 32, 33, 24, 87, 88, 89, 90, 91, 92, 93, 94, 95, 96, 97, 98, 99, 100, 101, 102, 103, 42, 104, 105, 106, 107, 108, 109, 110, 111, 112, 13, 113, 114, 115, 116, 117, 118, 119, 120, 121, 122, 123, 124, 125, 126, 127, 128, 129, 130, 131, 132, 133, 134, 135, 136, 137, 138, 139, 140, 141, 142, 143, 144, 145, 146, 12, 147, 148, 149, 150, 151, 152, 153, 154, 155, 156, 157, 158, 159, 160, 161, 162, 163, 164, 165, 166, 167, 168, 169, 170, 37, 171, 39, 172, 173, 174, 175, 176, 40, 41, 43, 44, 241, 242, 243, 244, 245, 246, 247, 248, 249, 250, 251, 252, 253, 254, 255, 256, 257, 278, 279, 280, 281, 258, 259, 260, 261, 262, 263, 264, 272, 273, 282] (by decide +kernel) (by decide +kernel)
set_option maxRecDepth 20000 in
theorem gX11_checksum_X11_mixEntrant : GoodIn wsX11_checksum (wsV RX11 300 RX11 yX11_mixEntrant wsX11_mixEntrant) := goodIn_app (goodIn_of _ (by decide +kernel)) ggX11_checksum_X11_mixEntrant
set_option maxRecDepth 20000 in
theorem ggX11_checksum_X11_mixPrograms : GoodIn wsX11_checksum wsX11_mixPrograms := goodIn_r _ [180, 2, 181, 182, 183, 184, 185, 186, 187, 188, 189, 190, 191, 192, 193, 194, 195, 196, 197, 198, 199, 70, 71, 52, 72, 73, 59, 60, 61, 62, 63, 200, 201, 202, 203, 204, 65, 66, 67, 68, 205, 206, 207, 208, 209, 144, 145, 146, 210, 55, 56, 57, 58, 211, 212, 213, 214, 215, 216, 217, 218, 40, 41, 42, 43, 44, 219, 241, 242, 243, 244, 245, 246, 247, 248, 249, 250, 251, 252, 253, 254, 255, 256, 257, 283, 274, 275, 276, 277] (by decide +kernel) (by decide +kernel)
set_option maxRecDepth 20000 in
theorem gX11_checksum_X11_mixPrograms : GoodIn wsX11_checksum (wsV RX11 303 RX11 yX11_mixPrograms wsX11_mixPrograms) := goodIn_app (goodIn_of _ (by decide +kernel)) ggX11_checksum_X11_mixPrograms
set_option maxRecDepth 20000 in
theorem ggX11_checksum_X11_mixSheets : GoodIn wsX11_checksum wsX11_mixSheets := goodIn_r _ [223, 2, 224, 131, 132, 117, 133, 134, 40, 41, 42, 43, 44, 225, 125, 126, 127, 128, 129, 241, 242, 243, 244, 245, 246, 247, 248, 249, 250, 251, 252, 253, 254, 255, 256, 257, 272, 273, 278, 279, 280, 281, 282] (by decide +kernel) (by decide +kernel)
set_option maxRecDepth 20000 in
theorem gX11_checksum_X11_mixSheets : GoodIn wsX11_checksum (wsV RX11 306 RX11 yX11_mixSheets wsX11_mixSheets) := goodIn_app (goodIn_of _ (by decide +kernel)) ggX11_checksum_X11_mixSheets
set_option maxRecDepth 20000 in
theorem ggX11_checksum_X7_playerAt : GoodIn wsX11_checksum wsX7_playerAt := goodIn_r _ [96, 92, 97, 260, 261, 262, 263, 264] (by decide +kernel) (by decide +kernel)
set_option maxRecDepth 20000 in
theorem gX11_checksum_X7_playerAt : GoodIn wsX11_checksum (wsV RX11 252 RX7 yX7_playerAt wsX7_playerAt) := goodIn_app (goodIn_of _ (by decide +kernel)) ggX11_checksum_X7_playerAt
set_option maxRecDepth 20000 in
theorem ggX11_checksum_X11_strangestJuror : GoodIn wsX11_checksum wsX11_strangestJuror := goodIn_r _ [230, 2, 231, 232, 233, 8, 234, 17, 10, 113, 235, 236, 145, 237, 143, 144, 146, 238, 94, 95, 90, 96, 92, 97, 147, 148, 149, 117, 150, 119, 151, 152, 153, 154, 124, 125, 126, 127, 128, 129, 130, 131, 132, 133, 134, 239, 121, 122, 123, 240, 241, 242, 243, 244, 245, 246, 247, 248, 249, 250, 251, 252, 253, 254, 255, 256, 257, 272, 273, 260, 261, 262, 263, 264, 282] (by decide +kernel) (by decide +kernel)
set_option maxRecDepth 20000 in
theorem gX11_checksum_X11_strangestJuror : GoodIn wsX11_checksum (wsV RX11 309 RX11 yX11_strangestJuror wsX11_strangestJuror) := goodIn_app (goodIn_of _ (by decide +kernel)) ggX11_checksum_X11_strangestJuror
theorem dX11_checksum_0 : decode cX11_checksum 0 = .ok (.ldc2_w 287, 3) := by decide +kernel
theorem dX11_checksum_3 : decode cX11_checksum 3 = .ok (.lstore_n 1, 1) := by decide +kernel
theorem dX11_checksum_4 : decode cX11_checksum 4 = .ok (.iconst 0, 1) := by decide +kernel
theorem dX11_checksum_5 : decode cX11_checksum 5 = .ok (.istore_n 3, 1) := by decide +kernel
theorem dX11_checksum_6 : decode cX11_checksum 6 = .ok (.iload_n 3, 1) := by decide +kernel
theorem dX11_checksum_7 : decode cX11_checksum 7 = .ok (.bipush 13, 2) := by decide +kernel
theorem dX11_checksum_9 : decode cX11_checksum 9 = .ok (.if_icmp .ge 22, 3) := by decide +kernel
theorem dX11_checksum_12 : decode cX11_checksum 12 = .ok (.lload_n 1, 1) := by decide +kernel
theorem dX11_checksum_13 : decode cX11_checksum 13 = .ok (.aload_n 0, 1) := by decide +kernel
theorem dX11_checksum_14 : decode cX11_checksum 14 = .ok (.getfield 10, 3) := by decide +kernel
theorem dX11_checksum_17 : decode cX11_checksum 17 = .ok (.iload_n 3, 1) := by decide +kernel
theorem dX11_checksum_18 : decode cX11_checksum 18 = .ok (.invokevirtual 108, 3) := by decide +kernel
theorem dX11_checksum_21 : decode cX11_checksum 21 = .ok (.invokestatic 289, 3) := by decide +kernel
theorem dX11_checksum_24 : decode cX11_checksum 24 = .ok (.lstore_n 1, 1) := by decide +kernel
theorem dX11_checksum_25 : decode cX11_checksum 25 = .ok (.iinc 3 1, 3) := by decide +kernel
theorem dX11_checksum_28 : decode cX11_checksum 28 = .ok (.goto (-22), 3) := by decide +kernel
theorem dX11_checksum_31 : decode cX11_checksum 31 = .ok (.aload_n 0, 1) := by decide +kernel
theorem dX11_checksum_32 : decode cX11_checksum 32 = .ok (.lload_n 1, 1) := by decide +kernel
theorem dX11_checksum_33 : decode cX11_checksum 33 = .ok (.invokevirtual 293, 3) := by decide +kernel
theorem dX11_checksum_36 : decode cX11_checksum 36 = .ok (.lstore_n 1, 1) := by decide +kernel
theorem dX11_checksum_37 : decode cX11_checksum 37 = .ok (.aload_n 0, 1) := by decide +kernel
theorem dX11_checksum_38 : decode cX11_checksum 38 = .ok (.lload_n 1, 1) := by decide +kernel
theorem dX11_checksum_39 : decode cX11_checksum 39 = .ok (.invokevirtual 297, 3) := by decide +kernel
theorem dX11_checksum_42 : decode cX11_checksum 42 = .ok (.lstore_n 1, 1) := by decide +kernel
theorem dX11_checksum_43 : decode cX11_checksum 43 = .ok (.iconst 0, 1) := by decide +kernel
theorem dX11_checksum_44 : decode cX11_checksum 44 = .ok (.istore_n 3, 1) := by decide +kernel
theorem dX11_checksum_45 : decode cX11_checksum 45 = .ok (.iload_n 3, 1) := by decide +kernel
theorem dX11_checksum_46 : decode cX11_checksum 46 = .ok (.aload_n 0, 1) := by decide +kernel
theorem dX11_checksum_47 : decode cX11_checksum 47 = .ok (.getfield 10, 3) := by decide +kernel
theorem dX11_checksum_50 : decode cX11_checksum 50 = .ok (.getfield 73, 3) := by decide +kernel
theorem dX11_checksum_53 : decode cX11_checksum 53 = .ok (.getfield 77, 3) := by decide +kernel
theorem dX11_checksum_56 : decode cX11_checksum 56 = .ok (.if_icmp .ge 30, 3) := by decide +kernel
theorem dX11_checksum_59 : decode cX11_checksum 59 = .ok (.aload_n 0, 1) := by decide +kernel
theorem dX11_checksum_60 : decode cX11_checksum 60 = .ok (.lload_n 1, 1) := by decide +kernel
theorem dX11_checksum_61 : decode cX11_checksum 61 = .ok (.iload_n 3, 1) := by decide +kernel
theorem dX11_checksum_62 : decode cX11_checksum 62 = .ok (.invokevirtual 300, 3) := by decide +kernel
theorem dX11_checksum_65 : decode cX11_checksum 65 = .ok (.lstore_n 1, 1) := by decide +kernel
theorem dX11_checksum_66 : decode cX11_checksum 66 = .ok (.aload_n 0, 1) := by decide +kernel
theorem dX11_checksum_67 : decode cX11_checksum 67 = .ok (.lload_n 1, 1) := by decide +kernel
theorem dX11_checksum_68 : decode cX11_checksum 68 = .ok (.iload_n 3, 1) := by decide +kernel
theorem dX11_checksum_69 : decode cX11_checksum 69 = .ok (.invokevirtual 303, 3) := by decide +kernel
theorem dX11_checksum_72 : decode cX11_checksum 72 = .ok (.lstore_n 1, 1) := by decide +kernel
theorem dX11_checksum_73 : decode cX11_checksum 73 = .ok (.aload_n 0, 1) := by decide +kernel
theorem dX11_checksum_74 : decode cX11_checksum 74 = .ok (.lload_n 1, 1) := by decide +kernel
theorem dX11_checksum_75 : decode cX11_checksum 75 = .ok (.iload_n 3, 1) := by decide +kernel
theorem dX11_checksum_76 : decode cX11_checksum 76 = .ok (.invokevirtual 306, 3) := by decide +kernel
theorem dX11_checksum_79 : decode cX11_checksum 79 = .ok (.lstore_n 1, 1) := by decide +kernel
theorem dX11_checksum_80 : decode cX11_checksum 80 = .ok (.iinc 3 1, 3) := by decide +kernel
theorem dX11_checksum_83 : decode cX11_checksum 83 = .ok (.goto (-38), 3) := by decide +kernel
theorem dX11_checksum_86 : decode cX11_checksum 86 = .ok (.iconst 0, 1) := by decide +kernel
theorem dX11_checksum_87 : decode cX11_checksum 87 = .ok (.istore_n 3, 1) := by decide +kernel
theorem dX11_checksum_88 : decode cX11_checksum 88 = .ok (.iload_n 3, 1) := by decide +kernel
theorem dX11_checksum_89 : decode cX11_checksum 89 = .ok (.aload_n 0, 1) := by decide +kernel
theorem dX11_checksum_90 : decode cX11_checksum 90 = .ok (.getfield 10, 3) := by decide +kernel
theorem dX11_checksum_93 : decode cX11_checksum 93 = .ok (.getfield 164, 3) := by decide +kernel
theorem dX11_checksum_96 : decode cX11_checksum 96 = .ok (.getfield 177, 3) := by decide +kernel
theorem dX11_checksum_99 : decode cX11_checksum 99 = .ok (.if_icmp .ge 25, 3) := by decide +kernel
theorem dX11_checksum_102 : decode cX11_checksum 102 = .ok (.lload_n 1, 1) := by decide +kernel
theorem dX11_checksum_103 : decode cX11_checksum 103 = .ok (.aload_n 0, 1) := by decide +kernel
theorem dX11_checksum_104 : decode cX11_checksum 104 = .ok (.getfield 10, 3) := by decide +kernel
theorem dX11_checksum_107 : decode cX11_checksum 107 = .ok (.getfield 164, 3) := by decide +kernel
theorem dX11_checksum_110 : decode cX11_checksum 110 = .ok (.iload_n 3, 1) := by decide +kernel
theorem dX11_checksum_111 : decode cX11_checksum 111 = .ok (.invokevirtual 252, 3) := by decide +kernel
theorem dX11_checksum_114 : decode cX11_checksum 114 = .ok (.invokestatic 289, 3) := by decide +kernel
theorem dX11_checksum_117 : decode cX11_checksum 117 = .ok (.lstore_n 1, 1) := by decide +kernel
theorem dX11_checksum_118 : decode cX11_checksum 118 = .ok (.iinc 3 1, 3) := by decide +kernel
theorem dX11_checksum_121 : decode cX11_checksum 121 = .ok (.goto (-33), 3) := by decide +kernel
theorem dX11_checksum_124 : decode cX11_checksum 124 = .ok (.lload_n 1, 1) := by decide +kernel
theorem dX11_checksum_125 : decode cX11_checksum 125 = .ok (.aload_n 0, 1) := by decide +kernel
theorem dX11_checksum_126 : decode cX11_checksum 126 = .ok (.invokevirtual 309, 3) := by decide +kernel
theorem dX11_checksum_129 : decode cX11_checksum 129 = .ok (.invokestatic 289, 3) := by decide +kernel
theorem dX11_checksum_132 : decode cX11_checksum 132 = .ok (.lstore_n 1, 1) := by decide +kernel
theorem dX11_checksum_133 : decode cX11_checksum 133 = .ok (.lload_n 1, 1) := by decide +kernel
theorem dX11_checksum_134 : decode cX11_checksum 134 = .ok (.aload_n 0, 1) := by decide +kernel
theorem dX11_checksum_135 : decode cX11_checksum 135 = .ok (.getfield 26, 3) := by decide +kernel
theorem dX11_checksum_138 : decode cX11_checksum 138 = .ok (.getfield 277, 3) := by decide +kernel
theorem dX11_checksum_141 : decode cX11_checksum 141 = .ok (.invokestatic 289, 3) := by decide +kernel
theorem dX11_checksum_144 : decode cX11_checksum 144 = .ok (.lstore_n 1, 1) := by decide +kernel
theorem dX11_checksum_145 : decode cX11_checksum 145 = .ok (.lload_n 1, 1) := by decide +kernel
theorem dX11_checksum_146 : decode cX11_checksum 146 = .ok (.aload_n 0, 1) := by decide +kernel
theorem dX11_checksum_147 : decode cX11_checksum 147 = .ok (.getfield 19, 3) := by decide +kernel
theorem dX11_checksum_150 : decode cX11_checksum 150 = .ok (.getfield 282, 3) := by decide +kernel
theorem dX11_checksum_153 : decode cX11_checksum 153 = .ok (.invokestatic 289, 3) := by decide +kernel
theorem dX11_checksum_156 : decode cX11_checksum 156 = .ok (.lreturn, 1) := by decide +kernel
theorem dX11_mix_0 : decode cX11_mix 0 = .ok (.ldc2_w 312, 3) := by decide +kernel
theorem dX11_mix_3 : decode cX11_mix 3 = .ok (.lload_n 0, 1) := by decide +kernel
theorem dX11_mix_4 : decode cX11_mix 4 = .ok (.lmul, 1) := by decide +kernel
theorem dX11_mix_5 : decode cX11_mix 5 = .ok (.iload_n 2, 1) := by decide +kernel
theorem dX11_mix_6 : decode cX11_mix 6 = .ok (.i2l, 1) := by decide +kernel
theorem dX11_mix_7 : decode cX11_mix 7 = .ok (.ladd, 1) := by decide +kernel
theorem dX11_mix_8 : decode cX11_mix 8 = .ok (.lreturn, 1) := by decide +kernel
set_option maxRecDepth 20000 in
theorem ggX11_mixWorks_X10_fact : GoodIn wsX11_mixWorks wsX10_fact := goodIn_r _ [6, 7, 8, 9, 5, 10, 11, 12, 13, 14, 15, 16, 17, 18, 19, 20, 21, 22, 23, 24, 25, 26, 49, 50, 51, 52] (by decide +kernel) (by decide +kernel)
set_option maxRecDepth 20000 in
theorem gX11_mixWorks_X10_fact : GoodIn wsX11_mixWorks (wsV RX11 69 RX10 yX10_fact wsX10_fact) := goodIn_app (goodIn_of _ (by decide +kernel)) ggX11_mixWorks_X10_fact
set_option maxRecDepth 20000 in
theorem ggX11_mixWorks_X11_mix : GoodIn wsX11_mixWorks wsX11_mix := goodIn_r _ [30, 31] (by decide +kernel) (by decide +kernel)
set_option maxRecDepth 20000 in
theorem gX11_mixWorks_X11_mix : GoodIn wsX11_mixWorks (va_wsS RX11 289 yX11_mix wsX11_mix) := goodIn_app (goodIn_of _ (by decide +kernel)) ggX11_mixWorks_X11_mix
theorem dX11_mixWorks_0 : decode cX11_mixWorks 0 = .ok (.lload_n 1, 1) := by decide +kernel
theorem dX11_mixWorks_1 : decode cX11_mixWorks 1 = .ok (.lstore_n 3, 1) := by decide +kernel
theorem dX11_mixWorks_2 : decode cX11_mixWorks 2 = .ok (.iconst 0, 1) := by decide +kernel
theorem dX11_mixWorks_3 : decode cX11_mixWorks 3 = .ok (.istore 5, 2) := by decide +kernel
theorem dX11_mixWorks_5 : decode cX11_mixWorks 5 = .ok (.iload 5, 2) := by decide +kernel
theorem dX11_mixWorks_7 : decode cX11_mixWorks 7 = .ok (.aload_n 0, 1) := by decide +kernel
theorem dX11_mixWorks_8 : decode cX11_mixWorks 8 = .ok (.getfield 10, 3) := by decide +kernel
theorem dX11_mixWorks_11 : decode cX11_mixWorks 11 = .ok (.getfield 42, 3) := by decide +kernel
theorem dX11_mixWorks_14 : decode cX11_mixWorks 14 = .ok (.getfield 46, 3) := by decide +kernel
theorem dX11_mixWorks_17 : decode cX11_mixWorks 17 = .ok (.if_icmp .ge 43, 3) := by decide +kernel
theorem dX11_mixWorks_20 : decode cX11_mixWorks 20 = .ok (.iconst 0, 1) := by decide +kernel
theorem dX11_mixWorks_21 : decode cX11_mixWorks 21 = .ok (.istore 6, 2) := by decide +kernel
theorem dX11_mixWorks_23 : decode cX11_mixWorks 23 = .ok (.iload 6, 2) := by decide +kernel
theorem dX11_mixWorks_25 : decode cX11_mixWorks 25 = .ok (.iconst 3, 1) := by decide +kernel
theorem dX11_mixWorks_26 : decode cX11_mixWorks 26 = .ok (.if_icmp .ge 28, 3) := by decide +kernel
theorem dX11_mixWorks_29 : decode cX11_mixWorks 29 = .ok (.lload_n 3, 1) := by decide +kernel
theorem dX11_mixWorks_30 : decode cX11_mixWorks 30 = .ok (.aload_n 0, 1) := by decide +kernel
theorem dX11_mixWorks_31 : decode cX11_mixWorks 31 = .ok (.getfield 10, 3) := by decide +kernel
theorem dX11_mixWorks_34 : decode cX11_mixWorks 34 = .ok (.getfield 42, 3) := by decide +kernel
theorem dX11_mixWorks_37 : decode cX11_mixWorks 37 = .ok (.iload 5, 2) := by decide +kernel
theorem dX11_mixWorks_39 : decode cX11_mixWorks 39 = .ok (.iload 6, 2) := by decide +kernel
theorem dX11_mixWorks_41 : decode cX11_mixWorks 41 = .ok (.invokevirtual 69, 3) := by decide +kernel
theorem dX11_mixWorks_44 : decode cX11_mixWorks 44 = .ok (.invokestatic 289, 3) := by decide +kernel
theorem dX11_mixWorks_47 : decode cX11_mixWorks 47 = .ok (.lstore_n 3, 1) := by decide +kernel
theorem dX11_mixWorks_48 : decode cX11_mixWorks 48 = .ok (.iinc 6 1, 3) := by decide +kernel
theorem dX11_mixWorks_51 : decode cX11_mixWorks 51 = .ok (.goto (-28), 3) := by decide +kernel
theorem dX11_mixWorks_54 : decode cX11_mixWorks 54 = .ok (.iinc 5 1, 3) := by decide +kernel
theorem dX11_mixWorks_57 : decode cX11_mixWorks 57 = .ok (.goto (-52), 3) := by decide +kernel
theorem dX11_mixWorks_60 : decode cX11_mixWorks 60 = .ok (.lload_n 3, 1) := by decide +kernel
theorem dX11_mixWorks_61 : decode cX11_mixWorks 61 = .ok (.lreturn, 1) := by decide +kernel
set_option maxRecDepth 20000 in
theorem ggX11_mixRules_X11_mix : GoodIn wsX11_mixRules wsX11_mix := goodIn_r _ [5, 6] (by decide +kernel) (by decide +kernel)
set_option maxRecDepth 20000 in
theorem gX11_mixRules_X11_mix : GoodIn wsX11_mixRules (va_wsS RX11 289 yX11_mix wsX11_mix) := goodIn_app (goodIn_of _ (by decide +kernel)) ggX11_mixRules_X11_mix
theorem dX11_mixRules_0 : decode cX11_mixRules 0 = .ok (.lload_n 1, 1) := by decide +kernel
theorem dX11_mixRules_1 : decode cX11_mixRules 1 = .ok (.lstore_n 3, 1) := by decide +kernel
theorem dX11_mixRules_2 : decode cX11_mixRules 2 = .ok (.iconst 0, 1) := by decide +kernel
theorem dX11_mixRules_3 : decode cX11_mixRules 3 = .ok (.istore 5, 2) := by decide +kernel
theorem dX11_mixRules_5 : decode cX11_mixRules 5 = .ok (.iload 5, 2) := by decide +kernel
theorem dX11_mixRules_7 : decode cX11_mixRules 7 = .ok (.iconst 4, 1) := by decide +kernel
theorem dX11_mixRules_8 : decode cX11_mixRules 8 = .ok (.if_icmp .ge 43, 3) := by decide +kernel
theorem dX11_mixRules_11 : decode cX11_mixRules 11 = .ok (.iconst 0, 1) := by decide +kernel
theorem dX11_mixRules_12 : decode cX11_mixRules 12 = .ok (.istore 6, 2) := by decide +kernel
theorem dX11_mixRules_14 : decode cX11_mixRules 14 = .ok (.iload 6, 2) := by decide +kernel
theorem dX11_mixRules_16 : decode cX11_mixRules 16 = .ok (.bipush 6, 2) := by decide +kernel
theorem dX11_mixRules_18 : decode cX11_mixRules 18 = .ok (.if_icmp .ge 27, 3) := by decide +kernel
theorem dX11_mixRules_21 : decode cX11_mixRules 21 = .ok (.lload_n 3, 1) := by decide +kernel
theorem dX11_mixRules_22 : decode cX11_mixRules 22 = .ok (.aload_n 0, 1) := by decide +kernel
theorem dX11_mixRules_23 : decode cX11_mixRules 23 = .ok (.getfield 10, 3) := by decide +kernel
theorem dX11_mixRules_26 : decode cX11_mixRules 26 = .ok (.getfield 125, 3) := by decide +kernel
theorem dX11_mixRules_29 : decode cX11_mixRules 29 = .ok (.iload 5, 2) := by decide +kernel
theorem dX11_mixRules_31 : decode cX11_mixRules 31 = .ok (.aaload, 1) := by decide +kernel
theorem dX11_mixRules_32 : decode cX11_mixRules 32 = .ok (.iload 6, 2) := by decide +kernel
theorem dX11_mixRules_34 : decode cX11_mixRules 34 = .ok (.iaload, 1) := by decide +kernel
theorem dX11_mixRules_35 : decode cX11_mixRules 35 = .ok (.invokestatic 289, 3) := by decide +kernel
theorem dX11_mixRules_38 : decode cX11_mixRules 38 = .ok (.lstore_n 3, 1) := by decide +kernel
theorem dX11_mixRules_39 : decode cX11_mixRules 39 = .ok (.iinc 6 1, 3) := by decide +kernel
theorem dX11_mixRules_42 : decode cX11_mixRules 42 = .ok (.goto (-28), 3) := by decide +kernel
theorem dX11_mixRules_45 : decode cX11_mixRules 45 = .ok (.iinc 5 1, 3) := by decide +kernel
theorem dX11_mixRules_48 : decode cX11_mixRules 48 = .ok (.goto (-43), 3) := by decide +kernel
theorem dX11_mixRules_51 : decode cX11_mixRules 51 = .ok (.lload_n 3, 1) := by decide +kernel
theorem dX11_mixRules_52 : decode cX11_mixRules 52 = .ok (.lreturn, 1) := by decide +kernel
set_option maxRecDepth 20000 in
theorem ggX11_mixEntrant_X0_tellOfEntrant : GoodIn wsX11_mixEntrant wsX0_tellOfEntrant := goodIn_r _ [6, 7, 8, 9, 10, 11, 12, 13, 14, 15, 16, 17, 18, 19, 20, 21, 22, 23, 24, 25, 26, 27, 28, 29, 30, 31, 32, 33, 34, 35, 36, 37, 38, 39, 40, 41, 42, 43, 5, 44, 45, 46, 47, 48, 49, 50, 51, 52, 53, 54, 55, 56, 57, 58, 59, 60, 61, 62, 63, 64, 65, 66, 67, 68, 69, 70, 71, 72, 73, 74, 75, 76, 77, 78, 79, 80, 81, 82, 83, 84, 85, 86, 87, 88, 89, 90, 91, 92, 93, 94, 95, 96, 97, 98, 99, 100, 101, 102, 103, 104, 105, 106, 107, 108, 109, 110, 111, 112, 113, 114, 115, 116, 124, 125, 126, 127, 128, 129, 130, 131, 132, 133, 134, 135, 136, 137, 138, 139, 140, 141, 142, 143, 144, 145, 146, 147, 148, 149, 150, 151] (by decide +kernel) (by decide +kernel)
set_option maxRecDepth 20000 in
theorem gX11_mixEntrant_X0_tellOfEntrant : GoodIn wsX11_mixEntrant (wsV RX11 232 RX0 yX0_tellOfEntrant wsX0_tellOfEntrant) := goodIn_app (goodIn_of _ (by decide +kernel)) ggX11_mixEntrant_X0_tellOfEntrant
set_option maxRecDepth 20000 in
theorem ggX11_mixEntrant_X11_mix : GoodIn wsX11_mixEntrant wsX11_mix := goodIn_r _ [119, 120] (by decide +kernel) (by decide +kernel)
set_option maxRecDepth 20000 in
theorem gX11_mixEntrant_X11_mix : GoodIn wsX11_mixEntrant (va_wsS RX11 289 yX11_mix wsX11_mix) := goodIn_app (goodIn_of _ (by decide +kernel)) ggX11_mixEntrant_X11_mix
theorem dX11_mixEntrant_0 : decode cX11_mixEntrant 0 = .ok (.lload_n 1, 1) := by decide +kernel
theorem dX11_mixEntrant_1 : decode cX11_mixEntrant 1 = .ok (.lstore 4, 2) := by decide +kernel
theorem dX11_mixEntrant_3 : decode cX11_mixEntrant 3 = .ok (.iconst 0, 1) := by decide +kernel
theorem dX11_mixEntrant_4 : decode cX11_mixEntrant 4 = .ok (.istore 6, 2) := by decide +kernel
theorem dX11_mixEntrant_6 : decode cX11_mixEntrant 6 = .ok (.iload 6, 2) := by decide +kernel
theorem dX11_mixEntrant_8 : decode cX11_mixEntrant 8 = .ok (.bipush 8, 2) := by decide +kernel
theorem dX11_mixEntrant_10 : decode cX11_mixEntrant 10 = .ok (.if_icmp .ge 26, 3) := by decide +kernel
theorem dX11_mixEntrant_13 : decode cX11_mixEntrant 13 = .ok (.lload 4, 2) := by decide +kernel
theorem dX11_mixEntrant_15 : decode cX11_mixEntrant 15 = .ok (.aload_n 0, 1) := by decide +kernel
theorem dX11_mixEntrant_16 : decode cX11_mixEntrant 16 = .ok (.getfield 10, 3) := by decide +kernel
theorem dX11_mixEntrant_19 : decode cX11_mixEntrant 19 = .ok (.iload_n 3, 1) := by decide +kernel
theorem dX11_mixEntrant_20 : decode cX11_mixEntrant 20 = .ok (.iload 6, 2) := by decide +kernel
theorem dX11_mixEntrant_22 : decode cX11_mixEntrant 22 = .ok (.invokevirtual 232, 3) := by decide +kernel
theorem dX11_mixEntrant_25 : decode cX11_mixEntrant 25 = .ok (.invokestatic 289, 3) := by decide +kernel
theorem dX11_mixEntrant_28 : decode cX11_mixEntrant 28 = .ok (.lstore 4, 2) := by decide +kernel
theorem dX11_mixEntrant_30 : decode cX11_mixEntrant 30 = .ok (.iinc 6 1, 3) := by decide +kernel
theorem dX11_mixEntrant_33 : decode cX11_mixEntrant 33 = .ok (.goto (-27), 3) := by decide +kernel
theorem dX11_mixEntrant_36 : decode cX11_mixEntrant 36 = .ok (.lload 4, 2) := by decide +kernel
theorem dX11_mixEntrant_38 : decode cX11_mixEntrant 38 = .ok (.lreturn, 1) := by decide +kernel
set_option maxRecDepth 20000 in
theorem ggX11_mixPrograms_X4_flawOf : GoodIn wsX11_mixPrograms wsX4_flawOf := goodIn_r _ [6, 7, 8, 9, 5, 10, 11, 12, 13, 14, 15, 16, 17, 18, 19, 20, 21, 22, 23, 24, 25, 26, 27, 28, 29, 30, 31, 32, 33, 34, 35, 36, 37, 38, 39, 40, 41, 42, 43, 44, 45, 46, 47, 48, 49, 50, 51, 52, 53, 54, 55, 56, 57, 58, 59, 60, 84, 85, 86, 87, 88] (by decide +kernel) (by decide +kernel)
set_option maxRecDepth 20000 in
theorem gX11_mixPrograms_X4_flawOf : GoodIn wsX11_mixPrograms (wsV RX11 160 RX4 yX4_flawOf wsX4_flawOf) := goodIn_app (goodIn_of _ (by decide +kernel)) ggX11_mixPrograms_X4_flawOf
set_option maxRecDepth 20000 in
theorem ggX11_mixPrograms_X11_mix : GoodIn wsX11_mixPrograms wsX11_mix := goodIn_r _ [64, 65] (by decide +kernel) (by decide +kernel)
set_option maxRecDepth 20000 in
theorem gX11_mixPrograms_X11_mix : GoodIn wsX11_mixPrograms (va_wsS RX11 289 yX11_mix wsX11_mix) := goodIn_app (goodIn_of _ (by decide +kernel)) ggX11_mixPrograms_X11_mix
set_option maxRecDepth 20000 in
theorem ggX11_mixPrograms_X4_workAt : GoodIn wsX11_mixPrograms wsX4_workAt := goodIn_r _ [14, 15, 84] (by decide +kernel) (by decide +kernel)
set_option maxRecDepth 20000 in
theorem gX11_mixPrograms_X4_workAt : GoodIn wsX11_mixPrograms (wsV RX11 157 RX4 yX4_workAt wsX4_workAt) := goodIn_app (goodIn_of _ (by decide +kernel)) ggX11_mixPrograms_X4_workAt
theorem dX11_mixPrograms_0 : decode cX11_mixPrograms 0 = .ok (.lload_n 1, 1) := by decide +kernel
theorem dX11_mixPrograms_1 : decode cX11_mixPrograms 1 = .ok (.lstore 4, 2) := by decide +kernel
theorem dX11_mixPrograms_3 : decode cX11_mixPrograms 3 = .ok (.iconst 0, 1) := by decide +kernel
theorem dX11_mixPrograms_4 : decode cX11_mixPrograms 4 = .ok (.istore 6, 2) := by decide +kernel
theorem dX11_mixPrograms_6 : decode cX11_mixPrograms 6 = .ok (.iload 6, 2) := by decide +kernel
theorem dX11_mixPrograms_8 : decode cX11_mixPrograms 8 = .ok (.iconst 4, 1) := by decide +kernel
theorem dX11_mixPrograms_9 : decode cX11_mixPrograms 9 = .ok (.if_icmp .ge 99, 3) := by decide +kernel
theorem dX11_mixPrograms_12 : decode cX11_mixPrograms 12 = .ok (.lload 4, 2) := by decide +kernel
theorem dX11_mixPrograms_14 : decode cX11_mixPrograms 14 = .ok (.aload_n 0, 1) := by decide +kernel
theorem dX11_mixPrograms_15 : decode cX11_mixPrograms 15 = .ok (.getfield 10, 3) := by decide +kernel
theorem dX11_mixPrograms_18 : decode cX11_mixPrograms 18 = .ok (.getfield 135, 3) := by decide +kernel
theorem dX11_mixPrograms_21 : decode cX11_mixPrograms 21 = .ok (.iload_n 3, 1) := by decide +kernel
theorem dX11_mixPrograms_22 : decode cX11_mixPrograms 22 = .ok (.iload 6, 2) := by decide +kernel
theorem dX11_mixPrograms_24 : decode cX11_mixPrograms 24 = .ok (.aload_n 0, 1) := by decide +kernel
theorem dX11_mixPrograms_25 : decode cX11_mixPrograms 25 = .ok (.getfield 10, 3) := by decide +kernel
theorem dX11_mixPrograms_28 : decode cX11_mixPrograms 28 = .ok (.getfield 125, 3) := by decide +kernel
theorem dX11_mixPrograms_31 : decode cX11_mixPrograms 31 = .ok (.aload_n 0, 1) := by decide +kernel
theorem dX11_mixPrograms_32 : decode cX11_mixPrograms 32 = .ok (.getfield 10, 3) := by decide +kernel
theorem dX11_mixPrograms_35 : decode cX11_mixPrograms 35 = .ok (.getfield 42, 3) := by decide +kernel
theorem dX11_mixPrograms_38 : decode cX11_mixPrograms 38 = .ok (.invokevirtual 160, 3) := by decide +kernel
theorem dX11_mixPrograms_41 : decode cX11_mixPrograms 41 = .ok (.invokestatic 289, 3) := by decide +kernel
theorem dX11_mixPrograms_44 : decode cX11_mixPrograms 44 = .ok (.lstore 4, 2) := by decide +kernel
theorem dX11_mixPrograms_46 : decode cX11_mixPrograms 46 = .ok (.lload 4, 2) := by decide +kernel
theorem dX11_mixPrograms_48 : decode cX11_mixPrograms 48 = .ok (.aload_n 0, 1) := by decide +kernel
theorem dX11_mixPrograms_49 : decode cX11_mixPrograms 49 = .ok (.getfield 10, 3) := by decide +kernel
theorem dX11_mixPrograms_52 : decode cX11_mixPrograms 52 = .ok (.getfield 249, 3) := by decide +kernel
theorem dX11_mixPrograms_55 : decode cX11_mixPrograms 55 = .ok (.iload 6, 2) := by decide +kernel
theorem dX11_mixPrograms_57 : decode cX11_mixPrograms 57 = .ok (.aaload, 1) := by decide +kernel
theorem dX11_mixPrograms_58 : decode cX11_mixPrograms 58 = .ok (.iload_n 3, 1) := by decide +kernel
theorem dX11_mixPrograms_59 : decode cX11_mixPrograms 59 = .ok (.iaload, 1) := by decide +kernel
theorem dX11_mixPrograms_60 : decode cX11_mixPrograms 60 = .ok (.invokestatic 289, 3) := by decide +kernel
theorem dX11_mixPrograms_63 : decode cX11_mixPrograms 63 = .ok (.lstore 4, 2) := by decide +kernel
theorem dX11_mixPrograms_65 : decode cX11_mixPrograms 65 = .ok (.iconst 0, 1) := by decide +kernel
theorem dX11_mixPrograms_66 : decode cX11_mixPrograms 66 = .ok (.istore 7, 2) := by decide +kernel
theorem dX11_mixPrograms_68 : decode cX11_mixPrograms 68 = .ok (.iload 7, 2) := by decide +kernel
theorem dX11_mixPrograms_70 : decode cX11_mixPrograms 70 = .ok (.iconst 4, 1) := by decide +kernel
theorem dX11_mixPrograms_71 : decode cX11_mixPrograms 71 = .ok (.if_icmp .ge 31, 3) := by decide +kernel
theorem dX11_mixPrograms_74 : decode cX11_mixPrograms 74 = .ok (.lload 4, 2) := by decide +kernel
theorem dX11_mixPrograms_76 : decode cX11_mixPrograms 76 = .ok (.aload_n 0, 1) := by decide +kernel
theorem dX11_mixPrograms_77 : decode cX11_mixPrograms 77 = .ok (.getfield 10, 3) := by decide +kernel
theorem dX11_mixPrograms_80 : decode cX11_mixPrograms 80 = .ok (.getfield 135, 3) := by decide +kernel
theorem dX11_mixPrograms_83 : decode cX11_mixPrograms 83 = .ok (.iload_n 3, 1) := by decide +kernel
theorem dX11_mixPrograms_84 : decode cX11_mixPrograms 84 = .ok (.iload 6, 2) := by decide +kernel
theorem dX11_mixPrograms_86 : decode cX11_mixPrograms 86 = .ok (.iload 7, 2) := by decide +kernel
theorem dX11_mixPrograms_88 : decode cX11_mixPrograms 88 = .ok (.invokevirtual 157, 3) := by decide +kernel
theorem dX11_mixPrograms_91 : decode cX11_mixPrograms 91 = .ok (.invokestatic 289, 3) := by decide +kernel
theorem dX11_mixPrograms_94 : decode cX11_mixPrograms 94 = .ok (.lstore 4, 2) := by decide +kernel
theorem dX11_mixPrograms_96 : decode cX11_mixPrograms 96 = .ok (.iinc 7 1, 3) := by decide +kernel
theorem dX11_mixPrograms_99 : decode cX11_mixPrograms 99 = .ok (.goto (-31), 3) := by decide +kernel
theorem dX11_mixPrograms_102 : decode cX11_mixPrograms 102 = .ok (.iinc 6 1, 3) := by decide +kernel
theorem dX11_mixPrograms_105 : decode cX11_mixPrograms 105 = .ok (.goto (-99), 3) := by decide +kernel
theorem dX11_mixPrograms_108 : decode cX11_mixPrograms 108 = .ok (.lload 4, 2) := by decide +kernel
theorem dX11_mixPrograms_110 : decode cX11_mixPrograms 110 = .ok (.lreturn, 1) := by decide +kernel
set_option maxRecDepth 20000 in
theorem ggX11_mixSheets_X3_isBarred : GoodIn wsX11_mixSheets wsX3_isBarred := goodIn_r _ [6, 7, 36, 37] (by decide +kernel) (by decide +kernel)
set_option maxRecDepth 20000 in
theorem gX11_mixSheets_X3_isBarred : GoodIn wsX11_mixSheets (wsV RX11 91 RX3 yX3_isBarred wsX3_isBarred) := goodIn_app (goodIn_of _ (by decide +kernel)) ggX11_mixSheets_X3_isBarred
set_option maxRecDepth 20000 in
theorem ggX11_mixSheets_X11_mix : GoodIn wsX11_mixSheets wsX11_mix := goodIn_r _ [11, 12] (by decide +kernel) (by decide +kernel)
set_option maxRecDepth 20000 in
theorem gX11_mixSheets_X11_mix : GoodIn wsX11_mixSheets (va_wsS RX11 289 yX11_mix wsX11_mix) := goodIn_app (goodIn_of _ (by decide +kernel)) ggX11_mixSheets_X11_mix
set_option maxRecDepth 20000 in
theorem ggX11_mixSheets_X6_at : GoodIn wsX11_mixSheets wsX6_at := goodIn_r _ [17, 18, 42] (by decide +kernel) (by decide +kernel)
set_option maxRecDepth 20000 in
theorem gX11_mixSheets_X6_at : GoodIn wsX11_mixSheets (wsV RX11 245 RX6 yX6_at wsX6_at) := goodIn_app (goodIn_of _ (by decide +kernel)) ggX11_mixSheets_X6_at
theorem dX11_mixSheets_0 : decode cX11_mixSheets 0 = .ok (.lload_n 1, 1) := by decide +kernel
theorem dX11_mixSheets_1 : decode cX11_mixSheets 1 = .ok (.lstore 4, 2) := by decide +kernel
theorem dX11_mixSheets_3 : decode cX11_mixSheets 3 = .ok (.iconst 0, 1) := by decide +kernel
theorem dX11_mixSheets_4 : decode cX11_mixSheets 4 = .ok (.istore 6, 2) := by decide +kernel
theorem dX11_mixSheets_6 : decode cX11_mixSheets 6 = .ok (.iload 6, 2) := by decide +kernel
theorem dX11_mixSheets_8 : decode cX11_mixSheets 8 = .ok (.aload_n 0, 1) := by decide +kernel
theorem dX11_mixSheets_9 : decode cX11_mixSheets 9 = .ok (.getfield 10, 3) := by decide +kernel
theorem dX11_mixSheets_12 : decode cX11_mixSheets 12 = .ok (.getfield 87, 3) := by decide +kernel
theorem dX11_mixSheets_15 : decode cX11_mixSheets 15 = .ok (.getfield 271, 3) := by decide +kernel
theorem dX11_mixSheets_18 : decode cX11_mixSheets 18 = .ok (.if_icmp .ge 80, 3) := by decide +kernel
theorem dX11_mixSheets_21 : decode cX11_mixSheets 21 = .ok (.lload 4, 2) := by decide +kernel
theorem dX11_mixSheets_23 : decode cX11_mixSheets 23 = .ok (.aload_n 0, 1) := by decide +kernel
theorem dX11_mixSheets_24 : decode cX11_mixSheets 24 = .ok (.getfield 10, 3) := by decide +kernel
theorem dX11_mixSheets_27 : decode cX11_mixSheets 27 = .ok (.getfield 87, 3) := by decide +kernel
theorem dX11_mixSheets_30 : decode cX11_mixSheets 30 = .ok (.iload 6, 2) := by decide +kernel
theorem dX11_mixSheets_32 : decode cX11_mixSheets 32 = .ok (.iload_n 3, 1) := by decide +kernel
theorem dX11_mixSheets_33 : decode cX11_mixSheets 33 = .ok (.invokevirtual 91, 3) := by decide +kernel
theorem dX11_mixSheets_36 : decode cX11_mixSheets 36 = .ok (.ifCond .eq 7, 3) := by decide +kernel
theorem dX11_mixSheets_39 : decode cX11_mixSheets 39 = .ok (.iconst 1, 1) := by decide +kernel
theorem dX11_mixSheets_40 : decode cX11_mixSheets 40 = .ok (.goto 4, 3) := by decide +kernel
theorem dX11_mixSheets_43 : decode cX11_mixSheets 43 = .ok (.iconst 0, 1) := by decide +kernel
theorem dX11_mixSheets_44 : decode cX11_mixSheets 44 = .ok (.invokestatic 289, 3) := by decide +kernel
theorem dX11_mixSheets_47 : decode cX11_mixSheets 47 = .ok (.lstore 4, 2) := by decide +kernel
theorem dX11_mixSheets_49 : decode cX11_mixSheets 49 = .ok (.lload 4, 2) := by decide +kernel
theorem dX11_mixSheets_51 : decode cX11_mixSheets 51 = .ok (.aload_n 0, 1) := by decide +kernel
theorem dX11_mixSheets_52 : decode cX11_mixSheets 52 = .ok (.getfield 10, 3) := by decide +kernel
theorem dX11_mixSheets_55 : decode cX11_mixSheets 55 = .ok (.getfield 248, 3) := by decide +kernel
theorem dX11_mixSheets_58 : decode cX11_mixSheets 58 = .ok (.iload 6, 2) := by decide +kernel
theorem dX11_mixSheets_60 : decode cX11_mixSheets 60 = .ok (.iload_n 3, 1) := by decide +kernel
theorem dX11_mixSheets_61 : decode cX11_mixSheets 61 = .ok (.invokevirtual 245, 3) := by decide +kernel
theorem dX11_mixSheets_64 : decode cX11_mixSheets 64 = .ok (.invokestatic 289, 3) := by decide +kernel
theorem dX11_mixSheets_67 : decode cX11_mixSheets 67 = .ok (.lstore 4, 2) := by decide +kernel
theorem dX11_mixSheets_69 : decode cX11_mixSheets 69 = .ok (.lload 4, 2) := by decide +kernel
theorem dX11_mixSheets_71 : decode cX11_mixSheets 71 = .ok (.aload_n 0, 1) := by decide +kernel
theorem dX11_mixSheets_72 : decode cX11_mixSheets 72 = .ok (.getfield 10, 3) := by decide +kernel
theorem dX11_mixSheets_75 : decode cX11_mixSheets 75 = .ok (.getfield 235, 3) := by decide +kernel
theorem dX11_mixSheets_78 : decode cX11_mixSheets 78 = .ok (.getfield 239, 3) := by decide +kernel
theorem dX11_mixSheets_81 : decode cX11_mixSheets 81 = .ok (.iload 6, 2) := by decide +kernel
theorem dX11_mixSheets_83 : decode cX11_mixSheets 83 = .ok (.iload_n 3, 1) := by decide +kernel
theorem dX11_mixSheets_84 : decode cX11_mixSheets 84 = .ok (.invokevirtual 245, 3) := by decide +kernel
theorem dX11_mixSheets_87 : decode cX11_mixSheets 87 = .ok (.invokestatic 289, 3) := by decide +kernel
theorem dX11_mixSheets_90 : decode cX11_mixSheets 90 = .ok (.lstore 4, 2) := by decide +kernel
theorem dX11_mixSheets_92 : decode cX11_mixSheets 92 = .ok (.iinc 6 1, 3) := by decide +kernel
theorem dX11_mixSheets_95 : decode cX11_mixSheets 95 = .ok (.goto (-89), 3) := by decide +kernel
theorem dX11_mixSheets_98 : decode cX11_mixSheets 98 = .ok (.lload 4, 2) := by decide +kernel
theorem dX11_mixSheets_100 : decode cX11_mixSheets 100 = .ok (.lreturn, 1) := by decide +kernel
theorem dX11_isBetween_0 : decode cX11_isBetween 0 = .ok (.iload_n 0, 1) := by decide +kernel
theorem dX11_isBetween_1 : decode cX11_isBetween 1 = .ok (.iload_n 1, 1) := by decide +kernel
theorem dX11_isBetween_2 : decode cX11_isBetween 2 = .ok (.if_icmp .lt 12, 3) := by decide +kernel
theorem dX11_isBetween_5 : decode cX11_isBetween 5 = .ok (.iload_n 0, 1) := by decide +kernel
theorem dX11_isBetween_6 : decode cX11_isBetween 6 = .ok (.iload_n 2, 1) := by decide +kernel
theorem dX11_isBetween_7 : decode cX11_isBetween 7 = .ok (.if_icmp .gt 7, 3) := by decide +kernel
theorem dX11_isBetween_10 : decode cX11_isBetween 10 = .ok (.iconst 1, 1) := by decide +kernel
theorem dX11_isBetween_11 : decode cX11_isBetween 11 = .ok (.goto 4, 3) := by decide +kernel
theorem dX11_isBetween_14 : decode cX11_isBetween 14 = .ok (.iconst 0, 1) := by decide +kernel
theorem dX11_isBetween_15 : decode cX11_isBetween 15 = .ok (.ireturn, 1) := by decide +kernel
theorem dX11_requireIndex_0 : decode cX11_requireIndex 0 = .ok (.iload_n 0, 1) := by decide +kernel
theorem dX11_requireIndex_1 : decode cX11_requireIndex 1 = .ok (.ifCond .ne 11, 3) := by decide +kernel
theorem dX11_requireIndex_4 : decode cX11_requireIndex 4 = .ok (.new 314, 3) := by decide +kernel
theorem dX11_requireIndex_7 : decode cX11_requireIndex 7 = .ok (.dup, 1) := by decide +kernel
theorem dX11_requireIndex_8 : decode cX11_requireIndex 8 = .ok (.invokespecial 316, 3) := by decide +kernel
theorem dX11_requireIndex_11 : decode cX11_requireIndex 11 = .ok (.athrow, 1) := by decide +kernel
theorem dX11_requireIndex_12 : decode cX11_requireIndex 12 = .ok (.return_, 1) := by decide +kernel
theorem dX11_requireArgument_0 : decode cX11_requireArgument 0 = .ok (.iload_n 0, 1) := by decide +kernel
theorem dX11_requireArgument_1 : decode cX11_requireArgument 1 = .ok (.ifCond .ne 11, 3) := by decide +kernel
theorem dX11_requireArgument_4 : decode cX11_requireArgument 4 = .ok (.new 317, 3) := by decide +kernel
theorem dX11_requireArgument_7 : decode cX11_requireArgument 7 = .ok (.dup, 1) := by decide +kernel
theorem dX11_requireArgument_8 : decode cX11_requireArgument 8 = .ok (.invokespecial 319, 3) := by decide +kernel
theorem dX11_requireArgument_11 : decode cX11_requireArgument 11 = .ok (.athrow, 1) := by decide +kernel
theorem dX11_requireArgument_12 : decode cX11_requireArgument 12 = .ok (.return_, 1) := by decide +kernel
theorem dX11_requireState_0 : decode cX11_requireState 0 = .ok (.iload_n 0, 1) := by decide +kernel
theorem dX11_requireState_1 : decode cX11_requireState 1 = .ok (.ifCond .ne 11, 3) := by decide +kernel
theorem dX11_requireState_4 : decode cX11_requireState 4 = .ok (.new 320, 3) := by decide +kernel
theorem dX11_requireState_7 : decode cX11_requireState 7 = .ok (.dup, 1) := by decide +kernel
theorem dX11_requireState_8 : decode cX11_requireState 8 = .ok (.invokespecial 322, 3) := by decide +kernel
theorem dX11_requireState_11 : decode cX11_requireState 11 = .ok (.athrow, 1) := by decide +kernel
theorem dX11_requireState_12 : decode cX11_requireState 12 = .ok (.return_, 1) := by decide +kernel
set_option maxRecDepth 20000 in
theorem ggX11_requireRound_X11_isBetween : GoodIn wsX11_requireRound wsX11_isBetween := goodIn_r _ [4] (by decide +kernel) (by decide +kernel)
set_option maxRecDepth 20000 in
theorem gX11_requireRound_X11_isBetween : GoodIn wsX11_requireRound (va_wsS RX11 30 yX11_isBetween wsX11_isBetween) := goodIn_app (goodIn_of _ (by decide +kernel)) ggX11_requireRound_X11_isBetween
set_option maxRecDepth 20000 in
theorem ggX11_requireRound_X11_requireIndex : GoodIn wsX11_requireRound wsX11_requireIndex := goodIn_ca (goodIn_r _ [7, 8, 9] (by decide +kernel) (by decide +kernel)) (goodIn_sub (fun _ h => List.mem_cons_of_mem _ (List.mem_append_right _ h)) (by decide +kernel))
set_option maxRecDepth 20000 in
theorem gX11_requireRound_X11_requireIndex : GoodIn wsX11_requireRound (va_wsS RX11 66 yX11_requireIndex wsX11_requireIndex) := goodIn_app (goodIn_of _ (by decide +kernel)) ggX11_requireRound_X11_requireIndex
theorem dX11_requireRound_0 : decode cX11_requireRound 0 = .ok (.iload_n 0, 1) := by decide +kernel
theorem dX11_requireRound_1 : decode cX11_requireRound 1 = .ok (.iconst 0, 1) := by decide +kernel
theorem dX11_requireRound_2 : decode cX11_requireRound 2 = .ok (.iconst 3, 1) := by decide +kernel
theorem dX11_requireRound_3 : decode cX11_requireRound 3 = .ok (.invokestatic 30, 3) := by decide +kernel
theorem dX11_requireRound_6 : decode cX11_requireRound 6 = .ok (.invokestatic 66, 3) := by decide +kernel
theorem dX11_requireRound_9 : decode cX11_requireRound 9 = .ok (.return_, 1) := by decide +kernel
set_option maxRecDepth 20000 in
theorem ggX11_requireEntrant_X2_has : GoodIn wsX11_requireEntrant wsX2_has := goodIn_r _ [6, 7, 31, 32] (by decide +kernel) (by decide +kernel)
set_option maxRecDepth 20000 in
theorem gX11_requireEntrant_X2_has : GoodIn wsX11_requireEntrant (wsV RX11 323 RX2 yX2_has wsX2_has) := goodIn_app (goodIn_of _ (by decide +kernel)) ggX11_requireEntrant_X2_has
set_option maxRecDepth 20000 in
theorem ggX11_requireEntrant_X11_requireIndex : GoodIn wsX11_requireEntrant wsX11_requireIndex := goodIn_ca (goodIn_r _ [11, 12, 13] (by decide +kernel) (by decide +kernel)) (goodIn_sub (fun _ h => List.mem_cons_of_mem _ (List.mem_append_right _ h)) (by decide +kernel))
set_option maxRecDepth 20000 in
theorem gX11_requireEntrant_X11_requireIndex : GoodIn wsX11_requireEntrant (va_wsS RX11 66 yX11_requireIndex wsX11_requireIndex) := goodIn_app (goodIn_of _ (by decide +kernel)) ggX11_requireEntrant_X11_requireIndex
theorem dX11_requireEntrant_0 : decode cX11_requireEntrant 0 = .ok (.aload_n 0, 1) := by decide +kernel
theorem dX11_requireEntrant_1 : decode cX11_requireEntrant 1 = .ok (.getfield 10, 3) := by decide +kernel
theorem dX11_requireEntrant_4 : decode cX11_requireEntrant 4 = .ok (.getfield 73, 3) := by decide +kernel
theorem dX11_requireEntrant_7 : decode cX11_requireEntrant 7 = .ok (.iload_n 1, 1) := by decide +kernel
theorem dX11_requireEntrant_8 : decode cX11_requireEntrant 8 = .ok (.invokevirtual 323, 3) := by decide +kernel
theorem dX11_requireEntrant_11 : decode cX11_requireEntrant 11 = .ok (.invokestatic 66, 3) := by decide +kernel
theorem dX11_requireEntrant_14 : decode cX11_requireEntrant 14 = .ok (.return_, 1) := by decide +kernel
set_option maxRecDepth 20000 in
theorem ggX11_requireEntrantAndRound_X11_requireEntrant : GoodIn wsX11_requireEntrantAndRound wsX11_requireEntrant := goodIn_ca (goodIn_r _ [5, 6, 7, 8, 9, 10, 11, 12, 13, 14, 4, 15, 16, 17, 24, 25, 26, 27, 28, 29, 30, 31, 32, 33, 34, 35, 36, 37, 38, 39, 40, 41, 42] (by decide +kernel) (by decide +kernel)) (goodIn_sub (fun _ h => List.mem_cons_of_mem _ (List.mem_append_right _ h)) (by decide +kernel))
set_option maxRecDepth 20000 in
theorem gX11_requireEntrantAndRound_X11_requireEntrant : GoodIn wsX11_requireEntrantAndRound (wsV RX11 217 RX11 yX11_requireEntrant wsX11_requireEntrant) := goodIn_app (goodIn_of _ (by decide +kernel)) ggX11_requireEntrantAndRound_X11_requireEntrant
set_option maxRecDepth 20000 in
theorem ggX11_requireEntrantAndRound_X11_requireRound : GoodIn wsX11_requireEntrantAndRound wsX11_requireRound := goodIn_ca (goodIn_r _ [20, 21, 22, 4, 23, 13, 14, 15, 16, 17] (by decide +kernel) (by decide +kernel)) (goodIn_sub (fun _ h => List.mem_cons_of_mem _ (List.mem_append_right _ h)) (by decide +kernel))
set_option maxRecDepth 20000 in
theorem gX11_requireEntrantAndRound_X11_requireRound : GoodIn wsX11_requireEntrantAndRound (va_wsS RX11 115 yX11_requireRound wsX11_requireRound) := goodIn_app (goodIn_of _ (by decide +kernel)) ggX11_requireEntrantAndRound_X11_requireRound
theorem dX11_requireEntrantAndRound_0 : decode cX11_requireEntrantAndRound 0 = .ok (.aload_n 0, 1) := by decide +kernel
theorem dX11_requireEntrantAndRound_1 : decode cX11_requireEntrantAndRound 1 = .ok (.iload_n 1, 1) := by decide +kernel
theorem dX11_requireEntrantAndRound_2 : decode cX11_requireEntrantAndRound 2 = .ok (.invokevirtual 217, 3) := by decide +kernel
theorem dX11_requireEntrantAndRound_5 : decode cX11_requireEntrantAndRound 5 = .ok (.iload_n 2, 1) := by decide +kernel
theorem dX11_requireEntrantAndRound_6 : decode cX11_requireEntrantAndRound 6 = .ok (.invokestatic 115, 3) := by decide +kernel
theorem dX11_requireEntrantAndRound_9 : decode cX11_requireEntrantAndRound 9 = .ok (.return_, 1) := by decide +kernel
set_option maxRecDepth 20000 in
theorem ggX11_requireJurorAndEntrant_X3_has : GoodIn wsX11_requireJurorAndEntrant wsX3_has := goodIn_r _ [6, 7, 41, 42] (by decide +kernel) (by decide +kernel)
set_option maxRecDepth 20000 in
theorem gX11_requireJurorAndEntrant_X3_has : GoodIn wsX11_requireJurorAndEntrant (wsV RX11 324 RX3 yX3_has wsX3_has) := goodIn_app (goodIn_of _ (by decide +kernel)) ggX11_requireJurorAndEntrant_X3_has
set_option maxRecDepth 20000 in
theorem ggX11_requireJurorAndEntrant_X11_requireIndex : GoodIn wsX11_requireJurorAndEntrant wsX11_requireIndex := goodIn_ca (goodIn_r _ [11, 12, 13] (by decide +kernel) (by decide +kernel)) (goodIn_sub (fun _ h => List.mem_cons_of_mem _ (List.mem_append_right _ h)) (by decide +kernel))
set_option maxRecDepth 20000 in
theorem gX11_requireJurorAndEntrant_X11_requireIndex : GoodIn wsX11_requireJurorAndEntrant (va_wsS RX11 66 yX11_requireIndex wsX11_requireIndex) := goodIn_app (goodIn_of _ (by decide +kernel)) ggX11_requireJurorAndEntrant_X11_requireIndex
set_option maxRecDepth 20000 in
theorem ggX11_requireJurorAndEntrant_X11_requireEntrant : GoodIn wsX11_requireJurorAndEntrant wsX11_requireEntrant := goodIn_ca (goodIn_r _ [17, 1, 18, 19, 20, 21, 22, 23, 8, 9, 10, 11, 12, 13, 24, 25, 26, 27, 28, 29, 30, 31, 32, 33, 34, 35, 36, 37, 38, 39, 40, 43, 44] (by decide +kernel) (by decide +kernel)) (goodIn_sub (fun _ h => List.mem_cons_of_mem _ (List.mem_append_right _ h)) (by decide +kernel))
set_option maxRecDepth 20000 in
theorem gX11_requireJurorAndEntrant_X11_requireEntrant : GoodIn wsX11_requireJurorAndEntrant (wsV RX11 217 RX11 yX11_requireEntrant wsX11_requireEntrant) := goodIn_app (goodIn_of _ (by decide +kernel)) ggX11_requireJurorAndEntrant_X11_requireEntrant
theorem dX11_requireJurorAndEntrant_0 : decode cX11_requireJurorAndEntrant 0 = .ok (.aload_n 0, 1) := by decide +kernel
theorem dX11_requireJurorAndEntrant_1 : decode cX11_requireJurorAndEntrant 1 = .ok (.getfield 10, 3) := by decide +kernel
theorem dX11_requireJurorAndEntrant_4 : decode cX11_requireJurorAndEntrant 4 = .ok (.getfield 87, 3) := by decide +kernel
theorem dX11_requireJurorAndEntrant_7 : decode cX11_requireJurorAndEntrant 7 = .ok (.iload_n 1, 1) := by decide +kernel
theorem dX11_requireJurorAndEntrant_8 : decode cX11_requireJurorAndEntrant 8 = .ok (.invokevirtual 324, 3) := by decide +kernel
theorem dX11_requireJurorAndEntrant_11 : decode cX11_requireJurorAndEntrant 11 = .ok (.invokestatic 66, 3) := by decide +kernel
theorem dX11_requireJurorAndEntrant_14 : decode cX11_requireJurorAndEntrant 14 = .ok (.aload_n 0, 1) := by decide +kernel
theorem dX11_requireJurorAndEntrant_15 : decode cX11_requireJurorAndEntrant 15 = .ok (.iload_n 2, 1) := by decide +kernel
theorem dX11_requireJurorAndEntrant_16 : decode cX11_requireJurorAndEntrant 16 = .ok (.invokevirtual 217, 3) := by decide +kernel
theorem dX11_requireJurorAndEntrant_19 : decode cX11_requireJurorAndEntrant 19 = .ok (.return_, 1) := by decide +kernel
theorem dX11_copyRows_0 : decode cX11_copyRows 0 = .ok (.iconst 0, 1) := by decide +kernel
theorem dX11_copyRows_1 : decode cX11_copyRows 1 = .ok (.istore_n 2, 1) := by decide +kernel
theorem dX11_copyRows_2 : decode cX11_copyRows 2 = .ok (.iload_n 2, 1) := by decide +kernel
theorem dX11_copyRows_3 : decode cX11_copyRows 3 = .ok (.aload_n 0, 1) := by decide +kernel
theorem dX11_copyRows_4 : decode cX11_copyRows 4 = .ok (.arraylength, 1) := by decide +kernel
theorem dX11_copyRows_5 : decode cX11_copyRows 5 = .ok (.if_icmp .ge 37, 3) := by decide +kernel
theorem dX11_copyRows_8 : decode cX11_copyRows 8 = .ok (.iload_n 2, 1) := by decide +kernel
theorem dX11_copyRows_9 : decode cX11_copyRows 9 = .ok (.aload_n 1, 1) := by decide +kernel
theorem dX11_copyRows_10 : decode cX11_copyRows 10 = .ok (.arraylength, 1) := by decide +kernel
theorem dX11_copyRows_11 : decode cX11_copyRows 11 = .ok (.if_icmp .ge 31, 3) := by decide +kernel
theorem dX11_copyRows_14 : decode cX11_copyRows 14 = .ok (.aload_n 0, 1) := by decide +kernel
theorem dX11_copyRows_15 : decode cX11_copyRows 15 = .ok (.iload_n 2, 1) := by decide +kernel
theorem dX11_copyRows_16 : decode cX11_copyRows 16 = .ok (.aaload, 1) := by decide +kernel
theorem dX11_copyRows_17 : decode cX11_copyRows 17 = .ok (.iconst 0, 1) := by decide +kernel
theorem dX11_copyRows_18 : decode cX11_copyRows 18 = .ok (.aload_n 1, 1) := by decide +kernel
theorem dX11_copyRows_19 : decode cX11_copyRows 19 = .ok (.iload_n 2, 1) := by decide +kernel
theorem dX11_copyRows_20 : decode cX11_copyRows 20 = .ok (.aaload, 1) := by decide +kernel
theorem dX11_copyRows_21 : decode cX11_copyRows 21 = .ok (.iconst 0, 1) := by decide +kernel
theorem dX11_copyRows_22 : decode cX11_copyRows 22 = .ok (.aload_n 0, 1) := by decide +kernel
theorem dX11_copyRows_23 : decode cX11_copyRows 23 = .ok (.iload_n 2, 1) := by decide +kernel
theorem dX11_copyRows_24 : decode cX11_copyRows 24 = .ok (.aaload, 1) := by decide +kernel
theorem dX11_copyRows_25 : decode cX11_copyRows 25 = .ok (.arraylength, 1) := by decide +kernel
theorem dX11_copyRows_26 : decode cX11_copyRows 26 = .ok (.aload_n 1, 1) := by decide +kernel
theorem dX11_copyRows_27 : decode cX11_copyRows 27 = .ok (.iload_n 2, 1) := by decide +kernel
theorem dX11_copyRows_28 : decode cX11_copyRows 28 = .ok (.aaload, 1) := by decide +kernel
theorem dX11_copyRows_29 : decode cX11_copyRows 29 = .ok (.arraylength, 1) := by decide +kernel
theorem dX11_copyRows_30 : decode cX11_copyRows 30 = .ok (.invokestatic 325, 3) := by decide +kernel
theorem dX11_copyRows_33 : decode cX11_copyRows 33 = .ok (.invokestatic 330, 3) := by decide +kernel
theorem dX11_copyRows_36 : decode cX11_copyRows 36 = .ok (.iinc 2 1, 3) := by decide +kernel
theorem dX11_copyRows_39 : decode cX11_copyRows 39 = .ok (.goto (-37), 3) := by decide +kernel
theorem dX11_copyRows_42 : decode cX11_copyRows 42 = .ok (.return_, 1) := by decide +kernel
theorem dX11_copyRow_0 : decode cX11_copyRow 0 = .ok (.aload_n 0, 1) := by decide +kernel
theorem dX11_copyRow_1 : decode cX11_copyRow 1 = .ok (.iconst 0, 1) := by decide +kernel
theorem dX11_copyRow_2 : decode cX11_copyRow 2 = .ok (.aload_n 1, 1) := by decide +kernel
theorem dX11_copyRow_3 : decode cX11_copyRow 3 = .ok (.iconst 0, 1) := by decide +kernel
theorem dX11_copyRow_4 : decode cX11_copyRow 4 = .ok (.aload_n 0, 1) := by decide +kernel
theorem dX11_copyRow_5 : decode cX11_copyRow 5 = .ok (.arraylength, 1) := by decide +kernel
theorem dX11_copyRow_6 : decode cX11_copyRow 6 = .ok (.aload_n 1, 1) := by decide +kernel
theorem dX11_copyRow_7 : decode cX11_copyRow 7 = .ok (.arraylength, 1) := by decide +kernel
theorem dX11_copyRow_8 : decode cX11_copyRow 8 = .ok (.invokestatic 325, 3) := by decide +kernel
theorem dX11_copyRow_11 : decode cX11_copyRow 11 = .ok (.invokestatic 330, 3) := by decide +kernel
theorem dX11_copyRow_14 : decode cX11_copyRow 14 = .ok (.return_, 1) := by decide +kernel
theorem dJ9_abs_0f7a4_0 : decode cJ9_abs_0f7a4 0 = .ok (.iload_n 0, 1) := by decide +kernel
theorem dJ9_abs_0f7a4_1 : decode cJ9_abs_0f7a4 1 = .ok (.ifCond .ge 8, 3) := by decide +kernel
theorem dJ9_abs_0f7a4_4 : decode cJ9_abs_0f7a4 4 = .ok (.iload_n 0, 1) := by decide +kernel
theorem dJ9_abs_0f7a4_5 : decode cJ9_abs_0f7a4 5 = .ok (.ineg, 1) := by decide +kernel
theorem dJ9_abs_0f7a4_6 : decode cJ9_abs_0f7a4 6 = .ok (.goto 4, 3) := by decide +kernel
theorem dJ9_abs_0f7a4_9 : decode cJ9_abs_0f7a4 9 = .ok (.iload_n 0, 1) := by decide +kernel
theorem dJ9_abs_0f7a4_10 : decode cJ9_abs_0f7a4 10 = .ok (.ireturn, 1) := by decide +kernel
theorem dJ9_max_7cf53_0 : decode cJ9_max_7cf53 0 = .ok (.iload_n 0, 1) := by decide +kernel
theorem dJ9_max_7cf53_1 : decode cJ9_max_7cf53 1 = .ok (.iload_n 1, 1) := by decide +kernel
theorem dJ9_max_7cf53_2 : decode cJ9_max_7cf53 2 = .ok (.if_icmp .lt 7, 3) := by decide +kernel
theorem dJ9_max_7cf53_5 : decode cJ9_max_7cf53 5 = .ok (.iload_n 0, 1) := by decide +kernel
theorem dJ9_max_7cf53_6 : decode cJ9_max_7cf53 6 = .ok (.goto 4, 3) := by decide +kernel
theorem dJ9_max_7cf53_9 : decode cJ9_max_7cf53 9 = .ok (.iload_n 1, 1) := by decide +kernel
theorem dJ9_max_7cf53_10 : decode cJ9_max_7cf53 10 = .ok (.ireturn, 1) := by decide +kernel
theorem dJ9_min_7cf53_0 : decode cJ9_min_7cf53 0 = .ok (.iload_n 0, 1) := by decide +kernel
theorem dJ9_min_7cf53_1 : decode cJ9_min_7cf53 1 = .ok (.iload_n 1, 1) := by decide +kernel
theorem dJ9_min_7cf53_2 : decode cJ9_min_7cf53 2 = .ok (.if_icmp .gt 7, 3) := by decide +kernel
theorem dJ9_min_7cf53_5 : decode cJ9_min_7cf53 5 = .ok (.iload_n 0, 1) := by decide +kernel
theorem dJ9_min_7cf53_6 : decode cJ9_min_7cf53 6 = .ok (.goto 4, 3) := by decide +kernel
theorem dJ9_min_7cf53_9 : decode cJ9_min_7cf53 9 = .ok (.iload_n 1, 1) := by decide +kernel
theorem dJ9_min_7cf53_10 : decode cJ9_min_7cf53 10 = .ok (.ireturn, 1) := by decide +kernel
theorem dJ7_fill_53178_0 : decode cJ7_fill_53178 0 = .ok (.iconst 0, 1) := by decide +kernel
theorem dJ7_fill_53178_1 : decode cJ7_fill_53178 1 = .ok (.istore_n 2, 1) := by decide +kernel
theorem dJ7_fill_53178_2 : decode cJ7_fill_53178 2 = .ok (.aload_n 0, 1) := by decide +kernel
theorem dJ7_fill_53178_3 : decode cJ7_fill_53178 3 = .ok (.arraylength, 1) := by decide +kernel
theorem dJ7_fill_53178_4 : decode cJ7_fill_53178 4 = .ok (.istore_n 3, 1) := by decide +kernel
theorem dJ7_fill_53178_5 : decode cJ7_fill_53178 5 = .ok (.iload_n 2, 1) := by decide +kernel
theorem dJ7_fill_53178_6 : decode cJ7_fill_53178 6 = .ok (.iload_n 3, 1) := by decide +kernel
theorem dJ7_fill_53178_7 : decode cJ7_fill_53178 7 = .ok (.if_icmp .ge 13, 3) := by decide +kernel
theorem dJ7_fill_53178_10 : decode cJ7_fill_53178 10 = .ok (.aload_n 0, 1) := by decide +kernel
theorem dJ7_fill_53178_11 : decode cJ7_fill_53178 11 = .ok (.iload_n 2, 1) := by decide +kernel
theorem dJ7_fill_53178_12 : decode cJ7_fill_53178 12 = .ok (.iload_n 1, 1) := by decide +kernel
theorem dJ7_fill_53178_13 : decode cJ7_fill_53178 13 = .ok (.iastore, 1) := by decide +kernel
theorem dJ7_fill_53178_14 : decode cJ7_fill_53178 14 = .ok (.iinc 2 1, 3) := by decide +kernel
theorem dJ7_fill_53178_17 : decode cJ7_fill_53178 17 = .ok (.goto (-12), 3) := by decide +kernel
theorem dJ7_fill_53178_20 : decode cJ7_fill_53178 20 = .ok (.return_, 1) := by decide +kernel
theorem dL_cell_0 : decode cL_cell 0 = .ok (.iload_n 1, 1) := by decide +kernel
theorem dL_cell_1 : decode cL_cell 1 = .ok (.aload_n 0, 1) := by decide +kernel
theorem dL_cell_2 : decode cL_cell 2 = .ok (.arraylength, 1) := by decide +kernel
theorem dL_cell_3 : decode cL_cell 3 = .ok (.if_icmp .ge 9, 3) := by decide +kernel
theorem dL_cell_6 : decode cL_cell 6 = .ok (.aload_n 0, 1) := by decide +kernel
theorem dL_cell_7 : decode cL_cell 7 = .ok (.iload_n 1, 1) := by decide +kernel
theorem dL_cell_8 : decode cL_cell 8 = .ok (.iaload, 1) := by decide +kernel
theorem dL_cell_9 : decode cL_cell 9 = .ok (.goto 15, 3) := by decide +kernel
theorem dL_cell_12 : decode cL_cell 12 = .ok (.ldc 7, 2) := by decide +kernel
theorem dL_cell_14 : decode cL_cell 14 = .ok (.iload_n 1, 1) := by decide +kernel
theorem dL_cell_15 : decode cL_cell 15 = .ok (.sipush 1667, 3) := by decide +kernel
theorem dL_cell_18 : decode cL_cell 18 = .ok (.iadd, 1) := by decide +kernel
theorem dL_cell_19 : decode cL_cell 19 = .ok (.imul, 1) := by decide +kernel
theorem dL_cell_20 : decode cL_cell 20 = .ok (.sipush 1489, 3) := by decide +kernel
theorem dL_cell_23 : decode cL_cell 23 = .ok (.iadd, 1) := by decide +kernel
theorem dL_cell_24 : decode cL_cell 24 = .ok (.ireturn, 1) := by decide +kernel
theorem dL_low_0 : decode cL_low 0 = .ok (.iload_n 0, 1) := by decide +kernel
theorem dL_low_1 : decode cL_low 1 = .ok (.ldc 8, 2) := by decide +kernel
theorem dL_low_3 : decode cL_low 3 = .ok (.iand, 1) := by decide +kernel
theorem dL_low_4 : decode cL_low 4 = .ok (.iload_n 1, 1) := by decide +kernel
theorem dL_low_5 : decode cL_low 5 = .ok (.irem, 1) := by decide +kernel
theorem dL_low_6 : decode cL_low 6 = .ok (.ireturn, 1) := by decide +kernel
set_option maxRecDepth 20000 in
theorem ggL_addWork_X11_addWork : GoodIn wsL_addWork wsX11_addWork := goodIn_ca (goodIn_ca (goodIn_r _ [7, 8, 9, 10, 11, 6, 12, 13, 14, 15, 16, 17, 18, 19, 20, 21, 22, 23, 24, 25, 26, 27, 28, 29, 30, 31, 32, 33, 34, 35, 36, 37, 38, 39, 40, 41, 42, 43, 44, 45, 46, 47, 48, 49, 50, 51, 52, 53, 54, 55, 56, 57, 58, 59, 60, 61, 62, 63, 64, 65, 66, 67, 68, 69, 70, 71, 72, 73, 74, 75, 76, 77, 78, 79, 80, 81, 82, 83, 84, 85, 86, 87, 88, 89, 90, 91, 92, 93, 94, 95, 96, 97, 98, 99, 100, 101, 102, 103, 104, 105, 106, 107, 108, 109, 110, 111, 112, 113, 114, 115, 116, 117, 118, 119, 120, 121, 122, 123, 124, 125, 126, 127, 128, 129, 130, 131, 132, 133, 134, 135, 136, 137, 138, 139, 140, 141, 142, 143, 144, 145, 146, 147, 148, 149, 150, 151, 152, 153, 154, 155, 156, 157, 158, 159, 160] (by decide +kernel) (by decide +kernel)) (goodIn_sub (fun _ h => List.mem_cons_of_mem _ (List.mem_append_left _ (List.mem_append_right _ h))) (by decide +kernel))) (goodIn_sub (fun _ h => List.mem_cons_of_mem _ (List.mem_append_right _ h)) (by decide +kernel))
set_option maxRecDepth 20000 in
theorem gL_addWork_X11_addWork : GoodIn wsL_addWork (wsV RL 9 RX11 yX11_addWork wsX11_addWork) := goodIn_app (goodIn_of _ (by decide +kernel)) ggL_addWork_X11_addWork
theorem dL_addWork_0 : decode cL_addWork 0 = .ok (.aload_n 0, 1) := by decide +kernel
theorem dL_addWork_1 : decode cL_addWork 1 = .ok (.iload_n 1, 1) := by decide +kernel
theorem dL_addWork_2 : decode cL_addWork 2 = .ok (.iload_n 2, 1) := by decide +kernel
theorem dL_addWork_3 : decode cL_addWork 3 = .ok (.iload_n 3, 1) := by decide +kernel
theorem dL_addWork_4 : decode cL_addWork 4 = .ok (.invokevirtual 9, 3) := by decide +kernel
theorem dL_addWork_7 : decode cL_addWork 7 = .ok (.ireturn, 1) := by decide +kernel
theorem dL_addWork_8 : decode cL_addWork 8 = .ok (.astore 4, 2) := by decide +kernel
theorem dL_addWork_10 : decode cL_addWork 10 = .ok (.sipush (-901), 3) := by decide +kernel
theorem dL_addWork_13 : decode cL_addWork 13 = .ok (.ireturn, 1) := by decide +kernel
theorem dL_addWork_14 : decode cL_addWork 14 = .ok (.astore 4, 2) := by decide +kernel
theorem dL_addWork_16 : decode cL_addWork 16 = .ok (.sipush (-902), 3) := by decide +kernel
theorem dL_addWork_19 : decode cL_addWork 19 = .ok (.ireturn, 1) := by decide +kernel
set_option maxRecDepth 20000 in
theorem ggL_work_X11_work : GoodIn wsL_work wsX11_work := goodIn_ca (goodIn_ca (goodIn_r _ [7, 8, 9, 10, 11, 12, 13, 14, 15, 16, 6, 17, 18, 19, 20, 21, 22, 23, 24, 25, 26, 27, 28, 29, 30, 31, 32, 33, 34, 35, 36, 37, 38, 39, 40, 41, 42, 43, 44, 45, 46, 47, 48, 49, 50, 51, 52, 53, 54, 55, 56, 57, 58, 59, 60, 61, 62, 63, 64, 65, 66, 67, 68] (by decide +kernel) (by decide +kernel)) (goodIn_sub (fun _ h => List.mem_cons_of_mem _ (List.mem_append_left _ (List.mem_append_right _ h))) (by decide +kernel))) (goodIn_sub (fun _ h => List.mem_cons_of_mem _ (List.mem_append_right _ h)) (by decide +kernel))
set_option maxRecDepth 20000 in
theorem gL_work_X11_work : GoodIn wsL_work (wsV RL 19 RX11 yX11_work wsX11_work) := goodIn_app (goodIn_of _ (by decide +kernel)) ggL_work_X11_work
theorem dL_work_0 : decode cL_work 0 = .ok (.aload_n 0, 1) := by decide +kernel
theorem dL_work_1 : decode cL_work 1 = .ok (.iload_n 1, 1) := by decide +kernel
theorem dL_work_2 : decode cL_work 2 = .ok (.iload_n 2, 1) := by decide +kernel
theorem dL_work_3 : decode cL_work 3 = .ok (.invokevirtual 19, 3) := by decide +kernel
theorem dL_work_6 : decode cL_work 6 = .ok (.ireturn, 1) := by decide +kernel
theorem dL_work_7 : decode cL_work 7 = .ok (.astore_n 3, 1) := by decide +kernel
theorem dL_work_8 : decode cL_work 8 = .ok (.sipush (-903), 3) := by decide +kernel
theorem dL_work_11 : decode cL_work 11 = .ok (.ireturn, 1) := by decide +kernel
theorem dL_work_12 : decode cL_work 12 = .ok (.astore_n 3, 1) := by decide +kernel
theorem dL_work_13 : decode cL_work 13 = .ok (.sipush (-901), 3) := by decide +kernel
theorem dL_work_16 : decode cL_work 16 = .ok (.ireturn, 1) := by decide +kernel
set_option maxRecDepth 20000 in
theorem ggL_addEntrant_X11_addEntrant : GoodIn wsL_addEntrant wsX11_addEntrant := goodIn_ca (goodIn_r _ [6, 7, 8, 9, 10, 5, 11, 12, 13, 14, 15, 16, 17, 18, 19, 20, 21, 22, 23, 24, 25, 26, 27, 28, 29, 30, 31, 32, 33, 34, 35, 36, 37, 38, 39, 40, 41, 42, 43, 44, 45, 46, 47, 48, 49, 50, 51, 52, 53, 54, 55, 56, 57, 58, 59, 60, 61, 62, 63, 64, 65, 66, 67, 68, 69, 70, 71, 72, 73, 74, 75, 76, 77, 78, 79, 80, 81, 82, 83, 84, 85, 86, 87, 88, 89, 90, 91, 92, 93, 94, 95, 96, 97, 98, 99, 100, 101, 102, 103, 104, 105, 106, 107, 108, 109, 110, 111, 112, 113, 114, 115, 116, 117, 118, 119, 120, 121, 122, 123, 124, 125, 126, 127, 128, 129, 130, 131, 132, 133, 134, 135, 136, 137, 138, 139, 140, 141, 142, 143, 144, 145, 146, 147, 148, 149, 150, 151] (by decide +kernel) (by decide +kernel)) (goodIn_sub (fun _ h => List.mem_cons_of_mem _ (List.mem_append_right _ h)) (by decide +kernel))
set_option maxRecDepth 20000 in
theorem gL_addEntrant_X11_addEntrant : GoodIn wsL_addEntrant (wsV RL 25 RX11 yX11_addEntrant wsX11_addEntrant) := goodIn_app (goodIn_of _ (by decide +kernel)) ggL_addEntrant_X11_addEntrant
theorem dL_addEntrant_0 : decode cL_addEntrant 0 = .ok (.aload_n 0, 1) := by decide +kernel
theorem dL_addEntrant_1 : decode cL_addEntrant 1 = .ok (.invokevirtual 25, 3) := by decide +kernel
theorem dL_addEntrant_4 : decode cL_addEntrant 4 = .ok (.ireturn, 1) := by decide +kernel
theorem dL_addEntrant_5 : decode cL_addEntrant 5 = .ok (.astore_n 1, 1) := by decide +kernel
theorem dL_addEntrant_6 : decode cL_addEntrant 6 = .ok (.sipush (-902), 3) := by decide +kernel
theorem dL_addEntrant_9 : decode cL_addEntrant 9 = .ok (.ireturn, 1) := by decide +kernel
set_option maxRecDepth 20000 in
theorem ggL_bar_X11_bar : GoodIn wsL_bar wsX11_bar := goodIn_ca (goodIn_r _ [6, 7, 8, 9, 10, 11, 5, 12, 13, 14, 15, 16, 17, 18, 19, 20, 21, 22, 23, 24, 25, 26, 27, 28, 29, 30, 31, 32, 33, 34, 35, 36, 37, 38, 39, 40, 41, 42, 43, 44, 45, 46, 47, 48, 49, 50, 51, 52, 53, 54, 55, 56, 57, 58, 59, 60, 61, 62, 63, 64, 65, 66, 67, 68, 69, 70, 71, 72, 73, 74, 75, 76, 77, 78, 79, 80, 81, 82, 83, 84, 85, 86, 87, 88, 89, 90, 91, 92, 93, 94, 95, 96, 97, 98, 99, 100, 101, 102, 103, 104, 105, 106, 107, 108, 109, 110, 111, 112, 113, 114, 115, 116, 117, 118, 119, 120, 121, 122, 123, 124, 125, 126, 127, 128, 129, 130, 131, 132, 133, 134, 135, 136, 137, 138, 139, 140, 141, 142, 143, 144, 145, 146, 147, 148, 149, 150, 151, 152, 153, 154, 155, 156, 157, 158, 159, 160, 161, 162, 163, 164, 165, 166, 167, 168, 169, 170, 171] (by decide +kernel) (by decide +kernel)) (goodIn_sub (fun _ h => List.mem_cons_of_mem _ (List.mem_append_right _ h)) (by decide +kernel))
set_option maxRecDepth 20000 in
theorem gL_bar_X11_bar : GoodIn wsL_bar (wsV RL 29 RX11 yX11_bar wsX11_bar) := goodIn_app (goodIn_of _ (by decide +kernel)) ggL_bar_X11_bar
theorem dL_bar_0 : decode cL_bar 0 = .ok (.aload_n 0, 1) := by decide +kernel
theorem dL_bar_1 : decode cL_bar 1 = .ok (.iload_n 1, 1) := by decide +kernel
theorem dL_bar_2 : decode cL_bar 2 = .ok (.iload_n 2, 1) := by decide +kernel
theorem dL_bar_3 : decode cL_bar 3 = .ok (.iload_n 3, 1) := by decide +kernel
theorem dL_bar_4 : decode cL_bar 4 = .ok (.invokevirtual 29, 3) := by decide +kernel
theorem dL_bar_7 : decode cL_bar 7 = .ok (.ifCond .eq 7, 3) := by decide +kernel
theorem dL_bar_10 : decode cL_bar 10 = .ok (.iconst 1, 1) := by decide +kernel
theorem dL_bar_11 : decode cL_bar 11 = .ok (.goto 4, 3) := by decide +kernel
theorem dL_bar_14 : decode cL_bar 14 = .ok (.iconst 0, 1) := by decide +kernel
theorem dL_bar_15 : decode cL_bar 15 = .ok (.ireturn, 1) := by decide +kernel
theorem dL_bar_16 : decode cL_bar 16 = .ok (.astore 4, 2) := by decide +kernel
theorem dL_bar_18 : decode cL_bar 18 = .ok (.sipush (-903), 3) := by decide +kernel
theorem dL_bar_21 : decode cL_bar 21 = .ok (.ireturn, 1) := by decide +kernel
set_option maxRecDepth 20000 in
theorem ggL_set_X11_set : GoodIn wsL_set wsX11_set := goodIn_ca (goodIn_ca (goodIn_r _ [7, 8, 9, 10, 11, 12, 13, 6, 14, 15, 16, 17, 18, 19, 20, 21, 22, 23, 24, 25, 26, 27, 28, 29, 30, 31, 32, 33, 34, 35, 36, 37, 38, 39, 40, 41, 42, 43, 44, 45, 46, 47, 48, 49, 50, 51, 52, 53, 54, 55, 56, 57, 58, 59, 60, 61, 62, 63, 64, 65, 66, 67, 68, 69, 70, 71, 72, 73, 74, 75, 76, 77, 78, 79, 80, 81, 82, 83, 84, 85, 86, 87, 88, 89, 90, 91, 92, 93, 94, 95, 96, 97, 98, 99, 100, 101, 102, 103, 104, 105, 106, 107, 108, 109, 110, 111, 112, 113, 114, 115, 116, 117, 118, 119, 120, 121, 122, 123, 124, 125, 126, 127, 128, 129, 130, 131, 132, 133, 134, 135, 136, 137, 138, 139, 140, 141, 142, 143, 144, 145, 146, 147, 148, 149, 150, 151, 152, 153, 154, 155, 156, 157, 158, 159, 160, 161, 162, 163, 164, 165, 166, 167, 168, 169, 170, 171, 172, 173, 174, 175, 176, 177, 178, 179, 180, 181, 182] (by decide +kernel) (by decide +kernel)) (goodIn_sub (fun _ h => List.mem_cons_of_mem _ (List.mem_append_left _ (List.mem_append_right _ h))) (by decide +kernel))) (goodIn_sub (fun _ h => List.mem_cons_of_mem _ (List.mem_append_right _ h)) (by decide +kernel))
set_option maxRecDepth 20000 in
theorem gL_set_X11_set : GoodIn wsL_set (wsV RL 33 RX11 yX11_set wsX11_set) := goodIn_app (goodIn_of _ (by decide +kernel)) ggL_set_X11_set
theorem dL_set_0 : decode cL_set 0 = .ok (.aload_n 0, 1) := by decide +kernel
theorem dL_set_1 : decode cL_set 1 = .ok (.iload_n 1, 1) := by decide +kernel
theorem dL_set_2 : decode cL_set 2 = .ok (.iload_n 2, 1) := by decide +kernel
theorem dL_set_3 : decode cL_set 3 = .ok (.invokevirtual 33, 3) := by decide +kernel
theorem dL_set_6 : decode cL_set 6 = .ok (.ireturn, 1) := by decide +kernel
theorem dL_set_7 : decode cL_set 7 = .ok (.astore_n 3, 1) := by decide +kernel
theorem dL_set_8 : decode cL_set 8 = .ok (.sipush (-901), 3) := by decide +kernel
theorem dL_set_11 : decode cL_set 11 = .ok (.ireturn, 1) := by decide +kernel
theorem dL_set_12 : decode cL_set 12 = .ok (.astore_n 3, 1) := by decide +kernel
theorem dL_set_13 : decode cL_set 13 = .ok (.sipush (-902), 3) := by decide +kernel
theorem dL_set_16 : decode cL_set 16 = .ok (.ireturn, 1) := by decide +kernel
set_option maxRecDepth 20000 in
theorem ggL_setRule_X11_setRule : GoodIn wsL_setRule wsX11_setRule := goodIn_ca (goodIn_ca (goodIn_ca (goodIn_r _ [8, 9, 10, 11, 12, 13, 14, 7, 15, 16, 17, 18, 19, 20, 21, 22, 23, 24, 25, 26, 27, 28, 29, 30, 31, 32, 33, 34, 35, 36, 37, 38, 39, 40, 41, 42, 43, 44, 45, 46, 47, 48, 49, 50, 51, 52, 53, 54, 55, 56, 57, 58, 59, 60, 61, 62, 63, 64, 65, 66, 67, 68, 69, 70, 71, 72, 73, 74, 75, 76, 77, 78, 79, 80, 81, 82, 83, 84, 85, 86, 87, 88, 89, 90, 91, 92, 93, 94, 95, 96, 97, 98, 99, 100, 101, 102, 103, 104, 105, 106, 107, 108, 109, 110, 111, 112, 113, 114, 115, 116, 117, 118, 119, 120, 121, 122, 123, 124, 125, 126, 127, 128, 129, 130, 131, 132, 133, 134, 135, 136, 137, 138, 139, 140, 141, 142, 143, 144, 145, 146, 147, 148, 149, 150, 151, 152, 153, 154, 155, 156, 157, 158, 159, 160, 161, 162, 163, 164, 165, 166, 167] (by decide +kernel) (by decide +kernel)) (goodIn_sub (fun _ h => List.mem_cons_of_mem _ (List.mem_append_left _ (List.mem_append_left _ (List.mem_append_right _ h)))) (by decide +kernel))) (goodIn_sub (fun _ h => List.mem_cons_of_mem _ (List.mem_append_left _ (List.mem_append_right _ h))) (by decide +kernel))) (goodIn_sub (fun _ h => List.mem_cons_of_mem _ (List.mem_append_right _ h)) (by decide +kernel))
set_option maxRecDepth 20000 in
theorem gL_setRule_X11_setRule : GoodIn wsL_setRule (wsV RL 36 RX11 yX11_setRule wsX11_setRule) := goodIn_app (goodIn_of _ (by decide +kernel)) ggL_setRule_X11_setRule
theorem dL_setRule_0 : decode cL_setRule 0 = .ok (.aload_n 0, 1) := by decide +kernel
theorem dL_setRule_1 : decode cL_setRule 1 = .ok (.iload_n 1, 1) := by decide +kernel
theorem dL_setRule_2 : decode cL_setRule 2 = .ok (.iload_n 2, 1) := by decide +kernel
theorem dL_setRule_3 : decode cL_setRule 3 = .ok (.iload_n 3, 1) := by decide +kernel
theorem dL_setRule_4 : decode cL_setRule 4 = .ok (.invokevirtual 36, 3) := by decide +kernel
theorem dL_setRule_7 : decode cL_setRule 7 = .ok (.ireturn, 1) := by decide +kernel
theorem dL_setRule_8 : decode cL_setRule 8 = .ok (.astore 4, 2) := by decide +kernel
theorem dL_setRule_10 : decode cL_setRule 10 = .ok (.sipush (-903), 3) := by decide +kernel
theorem dL_setRule_13 : decode cL_setRule 13 = .ok (.ireturn, 1) := by decide +kernel
theorem dL_setRule_14 : decode cL_setRule 14 = .ok (.astore 4, 2) := by decide +kernel
theorem dL_setRule_16 : decode cL_setRule 16 = .ok (.sipush (-901), 3) := by decide +kernel
theorem dL_setRule_19 : decode cL_setRule 19 = .ok (.ireturn, 1) := by decide +kernel
theorem dL_setRule_20 : decode cL_setRule 20 = .ok (.astore 4, 2) := by decide +kernel
theorem dL_setRule_22 : decode cL_setRule 22 = .ok (.sipush (-902), 3) := by decide +kernel
theorem dL_setRule_25 : decode cL_setRule 25 = .ok (.ireturn, 1) := by decide +kernel
set_option maxRecDepth 20000 in
theorem ggL_rule_X11_rule : GoodIn wsL_rule wsX11_rule := goodIn_ca (goodIn_ca (goodIn_r _ [7, 8, 9, 10, 6, 11, 12, 13, 14, 15, 16, 17, 18, 19, 20, 21, 22, 23, 24, 25, 26, 27, 28, 29, 30, 31, 32, 33, 34, 35, 36, 37, 38, 39, 40, 41] (by decide +kernel) (by decide +kernel)) (goodIn_sub (fun _ h => List.mem_cons_of_mem _ (List.mem_append_left _ (List.mem_append_right _ h))) (by decide +kernel))) (goodIn_sub (fun _ h => List.mem_cons_of_mem _ (List.mem_append_right _ h)) (by decide +kernel))
set_option maxRecDepth 20000 in
theorem gL_rule_X11_rule : GoodIn wsL_rule (wsV RL 39 RX11 yX11_rule wsX11_rule) := goodIn_app (goodIn_of _ (by decide +kernel)) ggL_rule_X11_rule
theorem dL_rule_0 : decode cL_rule 0 = .ok (.aload_n 0, 1) := by decide +kernel
theorem dL_rule_1 : decode cL_rule 1 = .ok (.iload_n 1, 1) := by decide +kernel
theorem dL_rule_2 : decode cL_rule 2 = .ok (.iload_n 2, 1) := by decide +kernel
theorem dL_rule_3 : decode cL_rule 3 = .ok (.invokevirtual 39, 3) := by decide +kernel
theorem dL_rule_6 : decode cL_rule 6 = .ok (.ireturn, 1) := by decide +kernel
theorem dL_rule_7 : decode cL_rule 7 = .ok (.astore_n 3, 1) := by decide +kernel
theorem dL_rule_8 : decode cL_rule 8 = .ok (.sipush (-903), 3) := by decide +kernel
theorem dL_rule_11 : decode cL_rule 11 = .ok (.ireturn, 1) := by decide +kernel
theorem dL_rule_12 : decode cL_rule 12 = .ok (.astore_n 3, 1) := by decide +kernel
theorem dL_rule_13 : decode cL_rule 13 = .ok (.sipush (-901), 3) := by decide +kernel
theorem dL_rule_16 : decode cL_rule 16 = .ok (.ireturn, 1) := by decide +kernel
set_option maxRecDepth 20000 in
theorem ggL_setProgram_X11_setProgram : GoodIn wsL_setProgram wsX11_setProgram := goodIn_ca (goodIn_ca (goodIn_r _ [7, 8, 9, 10, 11, 12, 13, 6, 14, 15, 16, 17, 18, 19, 20, 21, 22, 23, 24, 25, 26, 27, 28, 29, 30, 31, 32, 33, 34, 35, 36, 37, 38, 39, 40, 41, 42, 43, 44, 45, 46, 47, 48, 49, 50, 51, 52, 53, 54, 55, 56, 57, 58, 59, 60, 61, 62, 63, 64, 65, 66, 67, 68, 69, 70, 71, 72, 73, 74, 75, 76, 77, 78, 79, 80, 81, 82, 83, 84, 85, 86, 87, 88, 89, 90, 91, 92, 93, 94, 95, 96, 97, 98, 99, 100, 101, 102, 103, 104, 105, 106, 107, 108, 109, 110, 111, 112, 113, 114, 115, 116, 117, 118, 119, 120, 121, 122, 123, 124, 125, 126, 127, 128, 129, 130, 131, 132, 133, 134, 135, 136, 137, 138, 139, 140, 141, 142, 143, 144, 145, 146, 147, 148, 149, 150, 151, 152, 153, 154, 155, 156, 157, 158, 159, 160, 161, 162, 163, 164, 165, 166, 167, 168, 169, 170, 171, 172, 173, 174, 175, 176, 177, 178, 179, 180, 181, 182, 183, 184, 185, 186, 187, 188, 189, 190, 191, 192, 193, 194, 195, 196, 197, 198, 199, 200, 201, 202, 203, 204, 205, 206, 207, 208] (by decide +kernel) (by decide +kernel)) (goodIn_sub (fun _ h => List.mem_cons_of_mem _ (List.mem_append_left _ (List.mem_append_right _ h))) (by decide +kernel))) (goodIn_sub (fun _ h => List.mem_cons_of_mem _ (List.mem_append_right _ h)) (by decide +kernel))
set_option maxRecDepth 20000 in
theorem gL_setProgram_X11_setProgram : GoodIn wsL_setProgram (wsV RL 42 RX11 yX11_setProgram wsX11_setProgram) := goodIn_app (goodIn_of _ (by decide +kernel)) ggL_setProgram_X11_setProgram
theorem dL_setProgram_0 : decode cL_setProgram 0 = .ok (.aload_n 0, 1) := by decide +kernel
theorem dL_setProgram_1 : decode cL_setProgram 1 = .ok (.iload_n 1, 1) := by decide +kernel
theorem dL_setProgram_2 : decode cL_setProgram 2 = .ok (.iload_n 2, 1) := by decide +kernel
theorem dL_setProgram_3 : decode cL_setProgram 3 = .ok (.invokevirtual 42, 3) := by decide +kernel
theorem dL_setProgram_6 : decode cL_setProgram 6 = .ok (.ireturn, 1) := by decide +kernel
theorem dL_setProgram_7 : decode cL_setProgram 7 = .ok (.astore_n 3, 1) := by decide +kernel
theorem dL_setProgram_8 : decode cL_setProgram 8 = .ok (.sipush (-903), 3) := by decide +kernel
theorem dL_setProgram_11 : decode cL_setProgram 11 = .ok (.ireturn, 1) := by decide +kernel
theorem dL_setProgram_12 : decode cL_setProgram 12 = .ok (.astore_n 3, 1) := by decide +kernel
theorem dL_setProgram_13 : decode cL_setProgram 13 = .ok (.sipush (-901), 3) := by decide +kernel
theorem dL_setProgram_16 : decode cL_setProgram 16 = .ok (.ireturn, 1) := by decide +kernel
set_option maxRecDepth 20000 in
theorem ggL_clearProgram_X11_clearProgram : GoodIn wsL_clearProgram wsX11_clearProgram := goodIn_ca (goodIn_r _ [6, 7, 8, 9, 10, 11, 5, 12, 13, 14, 15, 16, 17, 18, 19, 20, 21, 22, 23, 24, 25, 26, 27, 28, 29, 30, 31, 32, 33, 34, 35, 36, 37, 38, 39, 40, 41, 42, 43, 44, 45, 46, 47, 48, 49, 50, 51, 52, 53, 54, 55, 56, 57, 58, 59, 60, 61, 62, 63, 64, 65, 66, 67, 68, 69, 70, 71, 72, 73, 74, 75, 76, 77, 78, 79, 80, 81, 82, 83, 84, 85, 86, 87, 88, 89, 90, 91, 92, 93, 94, 95, 96, 97, 98, 99, 100, 101, 102, 103, 104, 105, 106, 107, 108, 109, 110, 111, 112, 113, 114, 115, 116, 117, 118, 119, 120, 121, 122, 123, 124, 125, 126, 127, 128, 129, 130, 131, 132, 133, 134, 135, 136, 137, 138, 139, 140, 141, 142, 143, 144, 145, 146, 147, 148, 149, 150, 151, 152, 153, 154, 155, 156, 157, 158, 159, 160, 161, 162, 163, 164, 165, 166, 167, 168, 169, 170, 171, 172, 173, 174, 175, 176, 177, 178, 179, 180, 181] (by decide +kernel) (by decide +kernel)) (goodIn_sub (fun _ h => List.mem_cons_of_mem _ (List.mem_append_right _ h)) (by decide +kernel))
set_option maxRecDepth 20000 in
theorem gL_clearProgram_X11_clearProgram : GoodIn wsL_clearProgram (wsV RL 45 RX11 yX11_clearProgram wsX11_clearProgram) := goodIn_app (goodIn_of _ (by decide +kernel)) ggL_clearProgram_X11_clearProgram
theorem dL_clearProgram_0 : decode cL_clearProgram 0 = .ok (.aload_n 0, 1) := by decide +kernel
theorem dL_clearProgram_1 : decode cL_clearProgram 1 = .ok (.iload_n 1, 1) := by decide +kernel
theorem dL_clearProgram_2 : decode cL_clearProgram 2 = .ok (.iload_n 2, 1) := by decide +kernel
theorem dL_clearProgram_3 : decode cL_clearProgram 3 = .ok (.invokevirtual 45, 3) := by decide +kernel
theorem dL_clearProgram_6 : decode cL_clearProgram 6 = .ok (.ireturn, 1) := by decide +kernel
theorem dL_clearProgram_7 : decode cL_clearProgram 7 = .ok (.astore_n 3, 1) := by decide +kernel
theorem dL_clearProgram_8 : decode cL_clearProgram 8 = .ok (.sipush (-903), 3) := by decide +kernel
theorem dL_clearProgram_11 : decode cL_clearProgram 11 = .ok (.ireturn, 1) := by decide +kernel
set_option maxRecDepth 20000 in
theorem ggL_program_X11_program : GoodIn wsL_program wsX11_program := goodIn_ca (goodIn_r _ [6, 7, 8, 9, 10, 5, 11, 12, 13, 14, 15, 16, 17, 18, 19, 20, 21, 22, 23, 24, 25, 26, 27, 28, 29, 30, 31, 32, 33, 34, 35, 36, 37, 38, 39, 40, 41, 42, 43, 44, 45, 46, 47, 48, 49, 50, 51, 52, 53, 54, 55, 56, 57, 58] (by decide +kernel) (by decide +kernel)) (goodIn_sub (fun _ h => List.mem_cons_of_mem _ (List.mem_append_right _ h)) (by decide +kernel))
set_option maxRecDepth 20000 in
theorem gL_program_X11_program : GoodIn wsL_program (wsV RL 48 RX11 yX11_program wsX11_program) := goodIn_app (goodIn_of _ (by decide +kernel)) ggL_program_X11_program
theorem dL_program_0 : decode cL_program 0 = .ok (.aload_n 0, 1) := by decide +kernel
theorem dL_program_1 : decode cL_program 1 = .ok (.iload_n 1, 1) := by decide +kernel
theorem dL_program_2 : decode cL_program 2 = .ok (.iload_n 2, 1) := by decide +kernel
theorem dL_program_3 : decode cL_program 3 = .ok (.iload_n 3, 1) := by decide +kernel
theorem dL_program_4 : decode cL_program 4 = .ok (.invokevirtual 48, 3) := by decide +kernel
theorem dL_program_7 : decode cL_program 7 = .ok (.ireturn, 1) := by decide +kernel
theorem dL_program_8 : decode cL_program 8 = .ok (.astore 4, 2) := by decide +kernel
theorem dL_program_10 : decode cL_program 10 = .ok (.sipush (-903), 3) := by decide +kernel
theorem dL_program_13 : decode cL_program 13 = .ok (.ireturn, 1) := by decide +kernel
set_option maxRecDepth 20000 in
theorem ggL_flaw_X11_flaw : GoodIn wsL_flaw wsX11_flaw := goodIn_ca (goodIn_r _ [6, 7, 8, 9, 10, 5, 11, 12, 13, 14, 15, 16, 17, 18, 19, 20, 21, 22, 23, 24, 25, 26, 27, 28, 29, 30, 31, 32, 33, 34, 35, 36, 37, 38, 39, 40, 41, 42, 43, 44, 45, 46, 47, 48, 49, 50, 51, 52, 53, 54, 55, 56, 57, 58, 59, 60, 61, 62, 63, 64, 65, 66, 67, 68, 69, 70, 71, 72, 73, 74, 75, 76, 77, 78, 79, 80, 81, 82, 83, 84, 85, 86, 87, 88, 89, 90, 91, 92, 93, 94, 95, 96, 97, 98, 99, 100, 101, 102, 103, 104, 105, 106, 107, 108, 109, 110, 111, 112, 113, 114, 115] (by decide +kernel) (by decide +kernel)) (goodIn_sub (fun _ h => List.mem_cons_of_mem _ (List.mem_append_right _ h)) (by decide +kernel))
set_option maxRecDepth 20000 in
theorem gL_flaw_X11_flaw : GoodIn wsL_flaw (wsV RL 51 RX11 yX11_flaw wsX11_flaw) := goodIn_app (goodIn_of _ (by decide +kernel)) ggL_flaw_X11_flaw
theorem dL_flaw_0 : decode cL_flaw 0 = .ok (.aload_n 0, 1) := by decide +kernel
theorem dL_flaw_1 : decode cL_flaw 1 = .ok (.iload_n 1, 1) := by decide +kernel
theorem dL_flaw_2 : decode cL_flaw 2 = .ok (.iload_n 2, 1) := by decide +kernel
theorem dL_flaw_3 : decode cL_flaw 3 = .ok (.invokevirtual 51, 3) := by decide +kernel
theorem dL_flaw_6 : decode cL_flaw 6 = .ok (.ireturn, 1) := by decide +kernel
theorem dL_flaw_7 : decode cL_flaw 7 = .ok (.astore_n 3, 1) := by decide +kernel
theorem dL_flaw_8 : decode cL_flaw 8 = .ok (.sipush (-903), 3) := by decide +kernel
theorem dL_flaw_11 : decode cL_flaw 11 = .ok (.ireturn, 1) := by decide +kernel
set_option maxRecDepth 20000 in
theorem ggL_begin_X11_begin : GoodIn wsL_begin wsX11_begin := goodIn_ca (goodIn_ca (goodIn_r _ [7, 8, 9, 10, 11, 6, 12, 13, 14, 15, 16, 17, 18, 19, 20, 21, 22, 23, 24, 25, 26, 27, 28, 29, 30, 31, 32, 33, 34, 35, 36, 37, 38, 39, 40, 41, 42, 43, 44, 45, 46, 47, 48, 49, 50, 51, 52, 53, 54, 55, 56, 57, 58, 59, 60, 61, 62, 63, 64, 65, 66, 67, 68, 69, 70, 71, 72, 73, 74, 75, 76, 77, 78, 79, 80, 81, 82, 83, 84, 85, 86, 87, 88, 89, 90, 91, 92, 93, 94, 95, 96, 97, 98, 99, 100, 101, 102, 103, 104, 105, 106, 107, 108, 109, 110, 111, 112, 113, 114, 115, 116, 117, 118, 119, 120, 121, 122, 123, 124, 125, 126, 127, 128, 129, 130, 131, 132, 133, 134, 135, 136, 137, 138, 139, 140, 141, 142, 143, 144, 145, 146, 147, 148, 149, 150, 151, 152, 153, 154, 155, 156, 157, 158, 159, 160, 161, 162, 163, 164, 165, 166, 167, 168, 169, 170, 171, 172, 173, 174, 175, 176, 177, 178, 179, 180, 181, 182, 183, 184, 185, 186, 187, 188, 189, 190, 191, 192, 193, 194, 195, 196, 197, 198, 199, 200, 201, 202, 203, 204, 205, 206, 207, 208, 209, 210, 211, 212, 213, 214, 215, 216, 217, 218, 219, 220, 221, 222, 223, 224, 225, 226, 227, 228, 229, 230, 231, 232, 233, 234, 235, 236, 237, 238, 239, 240, 241, 242, 243, 244, 245, 246, 247, 248, 249, 250, 251] (by decide +kernel) (by decide +kernel)) (goodIn_sub (fun _ h => List.mem_cons_of_mem _ (List.mem_append_left _ (List.mem_append_right _ h))) (by decide +kernel))) (goodIn_sub (fun _ h => List.mem_cons_of_mem _ (List.mem_append_right _ h)) (by decide +kernel))
set_option maxRecDepth 20000 in
theorem gL_begin_X11_begin : GoodIn wsL_begin (wsV RL 54 RX11 yX11_begin wsX11_begin) := goodIn_app (goodIn_of _ (by decide +kernel)) ggL_begin_X11_begin
theorem dL_begin_0 : decode cL_begin 0 = .ok (.aload_n 0, 1) := by decide +kernel
theorem dL_begin_1 : decode cL_begin 1 = .ok (.iload_n 1, 1) := by decide +kernel
theorem dL_begin_2 : decode cL_begin 2 = .ok (.invokevirtual 54, 3) := by decide +kernel
theorem dL_begin_5 : decode cL_begin 5 = .ok (.ireturn, 1) := by decide +kernel
theorem dL_begin_6 : decode cL_begin 6 = .ok (.astore_n 2, 1) := by decide +kernel
theorem dL_begin_7 : decode cL_begin 7 = .ok (.sipush (-901), 3) := by decide +kernel
theorem dL_begin_10 : decode cL_begin 10 = .ok (.ireturn, 1) := by decide +kernel
theorem dL_begin_11 : decode cL_begin 11 = .ok (.astore_n 2, 1) := by decide +kernel
theorem dL_begin_12 : decode cL_begin 12 = .ok (.sipush (-902), 3) := by decide +kernel
theorem dL_begin_15 : decode cL_begin 15 = .ok (.ireturn, 1) := by decide +kernel
set_option maxRecDepth 20000 in
theorem ggL_play_X11_play : GoodIn wsL_play wsX11_play := goodIn_ca (goodIn_ca (goodIn_r _ [7, 8, 9, 10, 11, 6, 12, 13, 14, 15, 16, 17, 18, 19, 20, 21, 22, 23, 24, 25, 26, 27, 28, 29, 30, 31, 32, 33, 34, 35, 36, 37, 38, 39, 40, 41, 42, 43, 44, 45, 46, 47, 48, 49, 50, 51, 52, 53, 54, 55, 56, 57, 58, 59, 60, 61, 62, 63, 64, 65, 66, 67, 68, 69, 70, 71, 72, 73, 74, 75, 76, 77, 78, 79, 80, 81, 82, 83, 84, 85, 86, 87, 88, 89, 90, 91, 92, 93, 94, 95, 96, 97, 98, 99, 100, 101, 102, 103, 104, 105, 106, 107, 108, 109, 110, 111, 112, 113, 114, 115, 116, 117, 118, 119, 120, 121, 122, 123, 124, 125, 126, 127, 128, 129, 130, 131, 132, 133, 134, 135, 136, 137, 138, 139, 140, 141, 142, 143, 144, 145, 146, 147, 148, 149, 150, 151, 152, 153, 154, 155, 156, 157, 158, 159, 160, 161, 162, 163, 164] (by decide +kernel) (by decide +kernel)) (goodIn_sub (fun _ h => List.mem_cons_of_mem _ (List.mem_append_left _ (List.mem_append_right _ h))) (by decide +kernel))) (goodIn_sub (fun _ h => List.mem_cons_of_mem _ (List.mem_append_right _ h)) (by decide +kernel))
set_option maxRecDepth 20000 in
theorem gL_play_X11_play : GoodIn wsL_play (wsV RL 58 RX11 yX11_play wsX11_play) := goodIn_app (goodIn_of _ (by decide +kernel)) ggL_play_X11_play
theorem dL_play_0 : decode cL_play 0 = .ok (.aload_n 0, 1) := by decide +kernel
theorem dL_play_1 : decode cL_play 1 = .ok (.iload_n 1, 1) := by decide +kernel
theorem dL_play_2 : decode cL_play 2 = .ok (.invokevirtual 58, 3) := by decide +kernel
theorem dL_play_5 : decode cL_play 5 = .ok (.ireturn, 1) := by decide +kernel
theorem dL_play_6 : decode cL_play 6 = .ok (.astore_n 2, 1) := by decide +kernel
theorem dL_play_7 : decode cL_play 7 = .ok (.sipush (-901), 3) := by decide +kernel
theorem dL_play_10 : decode cL_play 10 = .ok (.ireturn, 1) := by decide +kernel
theorem dL_play_11 : decode cL_play 11 = .ok (.astore_n 2, 1) := by decide +kernel
theorem dL_play_12 : decode cL_play 12 = .ok (.sipush (-902), 3) := by decide +kernel
theorem dL_play_15 : decode cL_play 15 = .ok (.ireturn, 1) := by decide +kernel
set_option maxRecDepth 20000 in
theorem ggL_mark_X11_mark : GoodIn wsL_mark wsX11_mark := goodIn_ca (goodIn_ca (goodIn_ca (goodIn_r _ [8, 9, 10, 11, 12, 7, 13, 14, 15, 16, 17, 18, 19, 20, 21, 22, 23, 24, 25, 26, 27, 28, 29, 30, 31, 32, 33, 34, 35, 36, 37, 38, 39, 40, 41, 42, 43, 44, 45, 46, 47, 48, 49, 50, 51, 52, 53, 54, 55, 56, 57, 58, 59, 60, 61, 62, 63, 64, 65, 66, 67, 68, 69, 70, 71, 72, 73, 74, 75, 76, 77, 78, 79, 80, 81, 82, 83, 84, 85, 86, 87, 88, 89, 90, 91, 92, 93, 94, 95, 96, 97, 98, 99, 100, 101, 102, 103, 104, 105, 106, 107, 108, 109, 110, 111, 112, 113, 114, 115, 116, 117, 118, 119, 120, 121, 122, 123, 124, 125, 126, 127, 128, 129, 130, 131, 132, 133, 134, 135, 136, 137, 138, 139, 140, 141, 142, 143, 144, 145, 146, 147, 148, 149, 150, 151, 152, 153, 154, 155, 156, 157, 158, 159, 160, 161, 162, 163, 164, 165, 166, 167, 168, 169, 170, 171, 172, 173, 174, 175, 176, 177, 178, 179, 180, 181, 182, 183, 184, 185, 186, 187, 188, 189, 190, 191, 192, 193, 194, 195, 196, 197, 198, 199, 200, 201, 202, 203, 204, 205, 206, 207, 208, 209, 210, 211, 212, 213, 214, 215, 216, 217, 218, 219, 220, 221, 222, 223, 224, 225, 226, 227, 228] (by decide +kernel) (by decide +kernel)) (goodIn_sub (fun _ h => List.mem_cons_of_mem _ (List.mem_append_left _ (List.mem_append_left _ (List.mem_append_right _ h)))) (by decide +kernel))) (goodIn_sub (fun _ h => List.mem_cons_of_mem _ (List.mem_append_left _ (List.mem_append_right _ h))) (by decide +kernel))) (goodIn_sub (fun _ h => List.mem_cons_of_mem _ (List.mem_append_right _ h)) (by decide +kernel))
set_option maxRecDepth 20000 in
theorem gL_mark_X11_mark : GoodIn wsL_mark (wsV RL 61 RX11 yX11_mark wsX11_mark) := goodIn_app (goodIn_of _ (by decide +kernel)) ggL_mark_X11_mark
theorem dL_mark_0 : decode cL_mark 0 = .ok (.aload_n 0, 1) := by decide +kernel
theorem dL_mark_1 : decode cL_mark 1 = .ok (.iload_n 1, 1) := by decide +kernel
theorem dL_mark_2 : decode cL_mark 2 = .ok (.iload_n 2, 1) := by decide +kernel
theorem dL_mark_3 : decode cL_mark 3 = .ok (.iload_n 3, 1) := by decide +kernel
theorem dL_mark_4 : decode cL_mark 4 = .ok (.invokevirtual 61, 3) := by decide +kernel
theorem dL_mark_7 : decode cL_mark 7 = .ok (.ireturn, 1) := by decide +kernel
theorem dL_mark_8 : decode cL_mark 8 = .ok (.astore 4, 2) := by decide +kernel
theorem dL_mark_10 : decode cL_mark 10 = .ok (.sipush (-903), 3) := by decide +kernel
theorem dL_mark_13 : decode cL_mark 13 = .ok (.ireturn, 1) := by decide +kernel
theorem dL_mark_14 : decode cL_mark 14 = .ok (.astore 4, 2) := by decide +kernel
theorem dL_mark_16 : decode cL_mark 16 = .ok (.sipush (-901), 3) := by decide +kernel
theorem dL_mark_19 : decode cL_mark 19 = .ok (.ireturn, 1) := by decide +kernel
theorem dL_mark_20 : decode cL_mark 20 = .ok (.astore 4, 2) := by decide +kernel
theorem dL_mark_22 : decode cL_mark 22 = .ok (.sipush (-902), 3) := by decide +kernel
theorem dL_mark_25 : decode cL_mark 25 = .ok (.ireturn, 1) := by decide +kernel
set_option maxRecDepth 20000 in
theorem ggL_abstain_X11_abstain : GoodIn wsL_abstain wsX11_abstain := goodIn_ca (goodIn_ca (goodIn_r _ [7, 8, 9, 10, 6, 11, 12, 13, 14, 15, 16, 17, 18, 19, 20, 21, 22, 23, 24, 25, 26, 27, 28, 29, 30, 31, 32, 33, 34, 35, 36, 37, 38, 39, 40, 41, 42, 43, 44, 45, 46, 47, 48, 49, 50, 51, 52, 53, 54, 55, 56, 57, 58, 59, 60, 61, 62, 63, 64, 65, 66, 67, 68, 69, 70, 71, 72, 73, 74, 75, 76, 77, 78, 79, 80, 81, 82, 83, 84, 85, 86, 87, 88, 89, 90, 91, 92, 93, 94, 95, 96, 97, 98, 99, 100, 101, 102, 103, 104, 105, 106, 107, 108, 109, 110, 111, 112, 113, 114, 115, 116, 117, 118, 119, 120, 121, 122, 123, 124, 125, 126, 127, 128, 129, 130, 131, 132, 133, 134, 135, 136, 137, 138, 139, 140, 141, 142, 143, 144, 145, 146, 147, 148, 149, 150, 151, 152, 153, 154, 155, 156, 157, 158, 159, 160, 161, 162, 163, 164, 165, 166, 167, 168, 169, 170, 171, 172, 173, 174, 175, 176, 177, 178, 179, 180, 181, 182, 183, 184, 185, 186, 187, 188, 189, 190, 191, 192, 193, 194, 195, 196, 197, 198, 199, 200, 201, 202, 203, 204, 205, 206, 207, 208, 209, 210, 211, 212, 213, 214, 215, 216, 217, 218, 219, 220, 221] (by decide +kernel) (by decide +kernel)) (goodIn_sub (fun _ h => List.mem_cons_of_mem _ (List.mem_append_left _ (List.mem_append_right _ h))) (by decide +kernel))) (goodIn_sub (fun _ h => List.mem_cons_of_mem _ (List.mem_append_right _ h)) (by decide +kernel))
set_option maxRecDepth 20000 in
theorem gL_abstain_X11_abstain : GoodIn wsL_abstain (wsV RL 64 RX11 yX11_abstain wsX11_abstain) := goodIn_app (goodIn_of _ (by decide +kernel)) ggL_abstain_X11_abstain
theorem dL_abstain_0 : decode cL_abstain 0 = .ok (.aload_n 0, 1) := by decide +kernel
theorem dL_abstain_1 : decode cL_abstain 1 = .ok (.iload_n 1, 1) := by decide +kernel
theorem dL_abstain_2 : decode cL_abstain 2 = .ok (.iload_n 2, 1) := by decide +kernel
theorem dL_abstain_3 : decode cL_abstain 3 = .ok (.invokevirtual 64, 3) := by decide +kernel
theorem dL_abstain_6 : decode cL_abstain 6 = .ok (.ireturn, 1) := by decide +kernel
theorem dL_abstain_7 : decode cL_abstain 7 = .ok (.astore_n 3, 1) := by decide +kernel
theorem dL_abstain_8 : decode cL_abstain 8 = .ok (.sipush (-903), 3) := by decide +kernel
theorem dL_abstain_11 : decode cL_abstain 11 = .ok (.ireturn, 1) := by decide +kernel
theorem dL_abstain_12 : decode cL_abstain 12 = .ok (.astore_n 3, 1) := by decide +kernel
theorem dL_abstain_13 : decode cL_abstain 13 = .ok (.sipush (-902), 3) := by decide +kernel
theorem dL_abstain_16 : decode cL_abstain 16 = .ok (.ireturn, 1) := by decide +kernel
set_option maxRecDepth 20000 in
theorem ggL_close_X11_close : GoodIn wsL_close wsX11_close := goodIn_ca (goodIn_r _ [6, 7, 8, 9, 10, 11, 12, 13, 14, 15, 16, 17, 18, 19, 20, 21, 22, 23, 24, 25, 26, 27, 28, 29, 30, 31, 32, 33, 34, 35, 5, 36, 37, 38, 39, 40, 41, 42, 43, 44, 45, 46, 47, 48, 49, 50, 51, 52, 53, 54, 55, 56, 57, 58, 59, 60, 61, 62, 63, 64, 65, 66, 67, 68, 69, 70, 71, 72, 73, 74, 75, 76, 77, 78, 79, 80, 81, 82, 83, 84, 85, 86, 87, 88, 89, 90, 91, 92, 93, 94, 95, 96, 97, 98, 99, 100, 101, 102, 103, 104, 105, 106, 107, 108, 109, 110, 111, 112, 113, 114, 115, 116, 117, 118, 119, 120, 121, 122, 123, 124, 125, 126, 127, 128, 129, 130, 131, 132, 133, 134, 135, 136, 137, 138, 139, 140, 141, 142, 143, 144, 145, 146, 147, 148, 149, 150, 151, 152, 153, 154, 155, 156, 157, 158, 159, 160, 161, 162, 163, 164, 165, 166, 167, 168, 169, 170, 171, 172, 173, 174, 175, 176, 177, 178, 179, 180, 181, 182, 183, 184, 185, 186, 187, 188, 189, 190, 191, 192, 193, 194, 195, 196, 197, 198, 199, 200, 201, 202, 203, 204, 205, 206, 207, 208, 209, 210, 211, 212, 213, 214, 215, 216, 217, 218, 219, 220, 221, 222, 223, 224, 225, 226, 227, 228, 229, 230, 231, 232, 233, 234, 235, 236, 237, 238, 239, 240, 241, 242, 243, 244, 245, 246, 247, 248, 249, 250, 251, 252, 253, 254, 255, 256, 257, 258, 259, 260, 261, 262, 263, 264, 265, 266, 267, 268, 269, 270, 271, 272, 273, 274, 275, 276, 277, 278, 279, 280, 281, 282, 283, 284, 285, 286, 287, 288, 289, 290, 291, 292, 293, 294, 295, 296, 297, 298, 299, 300, 301, 302, 303, 304, 305, 306, 307, 308, 309, 310, 311, 312, 313, 314, 315, 316, 317, 318, 319, 320, 321, 322, 323, 324, 325, 326, 327, 328, 329, 330, 331, 332, 333, 334, 335, 336, 337, 338, 339, 340, 341, 342, 343, 344, 345, 346, 347, 348, 349, 350, 351, 352, 353, 354, 355, 356, 357, 358, 359, 360, 361, 362, 363, 364, 365, 366, 367, 368, 369, 370, 371, 372, 373, 374, 375, 376, 377, 378, 379, 380, 381, 382, 383, 384, 385, 386, 387, 388, 389, 390, 391, 392, 393, 394, 395, 396, 397, 398, 399, 400, 401, 402, 403, 404, 405, 406] (by decide +kernel) (by decide +kernel)) (goodIn_sub (fun _ h => List.mem_cons_of_mem _ (List.mem_append_right _ h)) (by decide +kernel))
set_option maxRecDepth 20000 in
theorem gL_close_X11_close : GoodIn wsL_close (wsV RL 67 RX11 yX11_close wsX11_close) := goodIn_app (goodIn_of _ (by decide +kernel)) ggL_close_X11_close
theorem dL_close_0 : decode cL_close 0 = .ok (.aload_n 0, 1) := by decide +kernel
theorem dL_close_1 : decode cL_close 1 = .ok (.invokevirtual 67, 3) := by decide +kernel
theorem dL_close_4 : decode cL_close 4 = .ok (.ireturn, 1) := by decide +kernel
theorem dL_close_5 : decode cL_close 5 = .ok (.astore_n 1, 1) := by decide +kernel
theorem dL_close_6 : decode cL_close 6 = .ok (.sipush (-902), 3) := by decide +kernel
theorem dL_close_9 : decode cL_close 9 = .ok (.ireturn, 1) := by decide +kernel
set_option maxRecDepth 20000 in
theorem ggL_withdraw_X11_withdraw : GoodIn wsL_withdraw wsX11_withdraw := goodIn_ca (goodIn_ca (goodIn_r _ [7, 8, 9, 10, 11, 12, 6, 13, 14, 15, 16, 17, 18, 19, 20, 21, 22, 23, 24, 25, 26, 27, 28, 29, 30, 31, 32, 33, 34, 35, 36, 37, 38, 39, 40, 41, 42, 43, 44, 45, 46, 47, 48, 49, 50, 51, 52, 53, 54, 55, 56, 57, 58, 59, 60, 61, 62, 63, 64, 65, 66, 67, 68, 69, 70, 71, 72, 73, 74, 75, 76, 77, 78, 79, 80, 81, 82, 83, 84, 85, 86, 87, 88, 89, 90, 91, 92, 93, 94, 95, 96, 97, 98, 99, 100, 101, 102, 103, 104, 105, 106, 107, 108, 109, 110, 111, 112, 113, 114, 115, 116, 117, 118, 119, 120, 121, 122, 123, 124, 125, 126, 127, 128, 129, 130, 131, 132, 133, 134, 135, 136, 137, 138, 139, 140, 141, 142, 143, 144, 145, 146, 147, 148, 149, 150, 151, 152, 153, 154, 155, 156, 157, 158, 159, 160, 161, 162, 163, 164, 165, 166, 167, 168, 169, 170, 171, 172, 173, 174, 175, 176, 177, 178, 179, 180, 181, 182, 183, 184, 185, 186, 187, 188, 189, 190, 191, 192, 193, 194, 195, 196, 197, 198, 199, 200, 201, 202, 203, 204, 205] (by decide +kernel) (by decide +kernel)) (goodIn_sub (fun _ h => List.mem_cons_of_mem _ (List.mem_append_left _ (List.mem_append_right _ h))) (by decide +kernel))) (goodIn_sub (fun _ h => List.mem_cons_of_mem _ (List.mem_append_right _ h)) (by decide +kernel))
set_option maxRecDepth 20000 in
theorem gL_withdraw_X11_withdraw : GoodIn wsL_withdraw (wsV RL 70 RX11 yX11_withdraw wsX11_withdraw) := goodIn_app (goodIn_of _ (by decide +kernel)) ggL_withdraw_X11_withdraw
theorem dL_withdraw_0 : decode cL_withdraw 0 = .ok (.aload_n 0, 1) := by decide +kernel
theorem dL_withdraw_1 : decode cL_withdraw 1 = .ok (.iload_n 1, 1) := by decide +kernel
theorem dL_withdraw_2 : decode cL_withdraw 2 = .ok (.invokevirtual 70, 3) := by decide +kernel
theorem dL_withdraw_5 : decode cL_withdraw 5 = .ok (.ireturn, 1) := by decide +kernel
theorem dL_withdraw_6 : decode cL_withdraw 6 = .ok (.astore_n 2, 1) := by decide +kernel
theorem dL_withdraw_7 : decode cL_withdraw 7 = .ok (.sipush (-903), 3) := by decide +kernel
theorem dL_withdraw_10 : decode cL_withdraw 10 = .ok (.ireturn, 1) := by decide +kernel
theorem dL_withdraw_11 : decode cL_withdraw 11 = .ok (.astore_n 2, 1) := by decide +kernel
theorem dL_withdraw_12 : decode cL_withdraw 12 = .ok (.sipush (-902), 3) := by decide +kernel
theorem dL_withdraw_15 : decode cL_withdraw 15 = .ok (.ireturn, 1) := by decide +kernel
set_option maxRecDepth 20000 in
theorem ggL_info_X11_info : GoodIn wsL_info wsX11_info := goodIn_ca (goodIn_r _ [6, 7, 8, 9, 5, 10, 11, 12, 13, 14, 15, 16, 17, 18, 19, 20, 21, 22, 23, 24, 25, 26, 27, 28, 29, 30, 31, 32, 33, 34, 35, 36, 37, 38, 39, 40, 41, 42, 43, 44, 45, 46, 47, 48, 49, 50, 51, 52, 53, 54, 55, 56, 57, 58, 59, 60, 61, 62, 63, 64, 65, 66, 67, 68, 69, 70, 71, 72, 73, 74, 75, 76, 77, 78, 79, 80, 81, 82, 83, 84] (by decide +kernel) (by decide +kernel)) (goodIn_sub (fun _ h => List.mem_cons_of_mem _ (List.mem_append_right _ h)) (by decide +kernel))
set_option maxRecDepth 20000 in
theorem gL_info_X11_info : GoodIn wsL_info (wsV RL 73 RX11 yX11_info wsX11_info) := goodIn_app (goodIn_of _ (by decide +kernel)) ggL_info_X11_info
theorem dL_info_0 : decode cL_info 0 = .ok (.aload_n 0, 1) := by decide +kernel
theorem dL_info_1 : decode cL_info 1 = .ok (.iload_n 1, 1) := by decide +kernel
theorem dL_info_2 : decode cL_info 2 = .ok (.invokevirtual 73, 3) := by decide +kernel
theorem dL_info_5 : decode cL_info 5 = .ok (.ireturn, 1) := by decide +kernel
theorem dL_info_6 : decode cL_info 6 = .ok (.astore_n 2, 1) := by decide +kernel
theorem dL_info_7 : decode cL_info 7 = .ok (.sipush (-901), 3) := by decide +kernel
theorem dL_info_10 : decode cL_info 10 = .ok (.ireturn, 1) := by decide +kernel
set_option maxRecDepth 20000 in
theorem ggL_entrant_X11_entrant : GoodIn wsL_entrant wsX11_entrant := goodIn_ca (goodIn_ca (goodIn_r _ [7, 8, 9, 10, 11, 6, 12, 13, 14, 15, 16, 17, 18, 19, 20, 21, 22, 23, 24, 25, 26, 27, 28, 29, 30, 31, 32, 33, 34, 35, 36, 37, 38, 39, 40, 41, 42, 43, 44, 45, 46, 47, 48, 49, 50, 51, 52, 53, 54, 55, 56, 57, 58, 59, 60, 61, 62, 63, 64, 65, 66, 67, 68, 69, 70, 71, 72, 73, 74, 75, 76, 77, 78, 79, 80, 81, 82, 83, 84, 85, 86, 87, 88, 89, 90, 91, 92, 93, 94, 95, 96, 97, 98, 99, 100, 101, 102, 103, 104, 105, 106, 107, 108, 109, 110, 111, 112, 113, 114, 115, 116, 117, 118, 119, 120, 121, 122, 123, 124, 125, 126, 127, 128, 129, 130, 131, 132, 133, 134, 135, 136, 137, 138, 139, 140, 141, 142, 143, 144, 145, 146, 147, 148, 149, 150, 151, 152, 153, 154, 155, 156, 157, 158, 159, 160, 161, 162, 163, 164, 165, 166, 167, 168, 169] (by decide +kernel) (by decide +kernel)) (goodIn_sub (fun _ h => List.mem_cons_of_mem _ (List.mem_append_left _ (List.mem_append_right _ h))) (by decide +kernel))) (goodIn_sub (fun _ h => List.mem_cons_of_mem _ (List.mem_append_right _ h)) (by decide +kernel))
set_option maxRecDepth 20000 in
theorem gL_entrant_X11_entrant : GoodIn wsL_entrant (wsV RL 76 RX11 yX11_entrant wsX11_entrant) := goodIn_app (goodIn_of _ (by decide +kernel)) ggL_entrant_X11_entrant
theorem dL_entrant_0 : decode cL_entrant 0 = .ok (.aload_n 0, 1) := by decide +kernel
theorem dL_entrant_1 : decode cL_entrant 1 = .ok (.iload_n 1, 1) := by decide +kernel
theorem dL_entrant_2 : decode cL_entrant 2 = .ok (.iload_n 2, 1) := by decide +kernel
theorem dL_entrant_3 : decode cL_entrant 3 = .ok (.invokevirtual 76, 3) := by decide +kernel
theorem dL_entrant_6 : decode cL_entrant 6 = .ok (.ireturn, 1) := by decide +kernel
theorem dL_entrant_7 : decode cL_entrant 7 = .ok (.astore_n 3, 1) := by decide +kernel
theorem dL_entrant_8 : decode cL_entrant 8 = .ok (.sipush (-903), 3) := by decide +kernel
theorem dL_entrant_11 : decode cL_entrant 11 = .ok (.ireturn, 1) := by decide +kernel
theorem dL_entrant_12 : decode cL_entrant 12 = .ok (.astore_n 3, 1) := by decide +kernel
theorem dL_entrant_13 : decode cL_entrant 13 = .ok (.sipush (-901), 3) := by decide +kernel
theorem dL_entrant_16 : decode cL_entrant 16 = .ok (.ireturn, 1) := by decide +kernel
set_option maxRecDepth 20000 in
theorem ggL_marked_X11_marked : GoodIn wsL_marked wsX11_marked := goodIn_ca (goodIn_r _ [6, 7, 8, 9, 10, 5, 11, 12, 13, 14, 15, 16, 17, 18, 19, 20, 21, 22, 23, 24, 25, 26, 27, 28, 29, 30, 31, 32, 33, 34, 35, 36, 37, 38, 39, 40, 41, 42, 43, 44, 45, 46, 47, 48, 49, 50, 51, 52, 53, 54, 55, 56, 57, 58, 59, 60, 61, 62, 63, 64] (by decide +kernel) (by decide +kernel)) (goodIn_sub (fun _ h => List.mem_cons_of_mem _ (List.mem_append_right _ h)) (by decide +kernel))
set_option maxRecDepth 20000 in
theorem gL_marked_X11_marked : GoodIn wsL_marked (wsV RL 79 RX11 yX11_marked wsX11_marked) := goodIn_app (goodIn_of _ (by decide +kernel)) ggL_marked_X11_marked
theorem dL_marked_0 : decode cL_marked 0 = .ok (.aload_n 0, 1) := by decide +kernel
theorem dL_marked_1 : decode cL_marked 1 = .ok (.iload_n 1, 1) := by decide +kernel
theorem dL_marked_2 : decode cL_marked 2 = .ok (.iload_n 2, 1) := by decide +kernel
theorem dL_marked_3 : decode cL_marked 3 = .ok (.iload_n 3, 1) := by decide +kernel
theorem dL_marked_4 : decode cL_marked 4 = .ok (.invokevirtual 79, 3) := by decide +kernel
theorem dL_marked_7 : decode cL_marked 7 = .ok (.ireturn, 1) := by decide +kernel
theorem dL_marked_8 : decode cL_marked 8 = .ok (.astore 4, 2) := by decide +kernel
theorem dL_marked_10 : decode cL_marked 10 = .ok (.sipush (-903), 3) := by decide +kernel
theorem dL_marked_13 : decode cL_marked 13 = .ok (.ireturn, 1) := by decide +kernel
set_option maxRecDepth 20000 in
theorem ggL_history_X11_history : GoodIn wsL_history wsX11_history := goodIn_ca (goodIn_r _ [6, 7, 8, 9, 10, 5, 11, 12, 13, 14, 15, 16, 17, 18, 19, 20, 21, 22, 23, 24, 25, 26, 27, 28, 29, 30, 31, 32, 33, 34, 35, 36, 37, 38, 39, 40, 41, 42, 43, 44, 45, 46, 47, 48, 49, 50, 51] (by decide +kernel) (by decide +kernel)) (goodIn_sub (fun _ h => List.mem_cons_of_mem _ (List.mem_append_right _ h)) (by decide +kernel))
set_option maxRecDepth 20000 in
theorem gL_history_X11_history : GoodIn wsL_history (wsV RL 83 RX11 yX11_history wsX11_history) := goodIn_app (goodIn_of _ (by decide +kernel)) ggL_history_X11_history
theorem dL_history_0 : decode cL_history 0 = .ok (.aload_n 0, 1) := by decide +kernel
theorem dL_history_1 : decode cL_history 1 = .ok (.iload_n 1, 1) := by decide +kernel
theorem dL_history_2 : decode cL_history 2 = .ok (.iload_n 2, 1) := by decide +kernel
theorem dL_history_3 : decode cL_history 3 = .ok (.invokevirtual 83, 3) := by decide +kernel
theorem dL_history_6 : decode cL_history 6 = .ok (.ireturn, 1) := by decide +kernel
theorem dL_history_7 : decode cL_history 7 = .ok (.astore_n 3, 1) := by decide +kernel
theorem dL_history_8 : decode cL_history 8 = .ok (.sipush (-903), 3) := by decide +kernel
theorem dL_history_11 : decode cL_history 11 = .ok (.ireturn, 1) := by decide +kernel
set_option maxRecDepth 20000 in
theorem ggL_wouldBe_X11_wouldBe : GoodIn wsL_wouldBe wsX11_wouldBe := goodIn_ca (goodIn_r _ [6, 7, 8, 9, 5, 10, 11, 12, 13, 14, 15, 16, 17, 18, 19, 20, 21, 22, 23, 24, 25, 26, 27, 28, 29, 30, 31, 32, 33, 34, 35, 36, 37, 38, 39, 40, 41, 42, 43, 44, 45, 46, 47, 48, 49, 50, 51, 52, 53, 54, 55, 56, 57, 58, 59, 60, 61, 62, 63, 64, 65, 66, 67, 68, 69, 70, 71, 72, 73, 74, 75, 76, 77, 78, 79, 80, 81, 82, 83, 84, 85, 86, 87, 88, 89, 90, 91, 92, 93, 94, 95, 96, 97, 98, 99, 100, 101, 102, 103, 104, 105, 106, 107, 108, 109, 110, 111, 112, 113, 114, 115, 116, 117, 118, 119, 120, 121, 122, 123, 124, 125, 126, 127, 128, 129, 130, 131, 132, 133, 134, 135, 136, 137, 138, 139, 140, 141, 142, 143, 144, 145, 146, 147, 148, 149, 150, 151, 152, 153, 154, 155, 156, 157, 158, 159, 160, 161, 162, 163, 164, 165, 166, 167, 168, 169, 170, 171, 172, 173, 174, 175] (by decide +kernel) (by decide +kernel)) (goodIn_sub (fun _ h => List.mem_cons_of_mem _ (List.mem_append_right _ h)) (by decide +kernel))
set_option maxRecDepth 20000 in
theorem gL_wouldBe_X11_wouldBe : GoodIn wsL_wouldBe (wsV RL 86 RX11 yX11_wouldBe wsX11_wouldBe) := goodIn_app (goodIn_of _ (by decide +kernel)) ggL_wouldBe_X11_wouldBe
theorem dL_wouldBe_0 : decode cL_wouldBe 0 = .ok (.aload_n 0, 1) := by decide +kernel
theorem dL_wouldBe_1 : decode cL_wouldBe 1 = .ok (.iload_n 1, 1) := by decide +kernel
theorem dL_wouldBe_2 : decode cL_wouldBe 2 = .ok (.invokevirtual 86, 3) := by decide +kernel
theorem dL_wouldBe_5 : decode cL_wouldBe 5 = .ok (.ireturn, 1) := by decide +kernel
theorem dL_wouldBe_6 : decode cL_wouldBe 6 = .ok (.astore_n 2, 1) := by decide +kernel
theorem dL_wouldBe_7 : decode cL_wouldBe 7 = .ok (.sipush (-901), 3) := by decide +kernel
theorem dL_wouldBe_10 : decode cL_wouldBe 10 = .ok (.ireturn, 1) := by decide +kernel
set_option maxRecDepth 20000 in
theorem ggL_neededMark_X11_neededMark : GoodIn wsL_neededMark wsX11_neededMark := goodIn_ca (goodIn_ca (goodIn_ca (goodIn_r _ [8, 9, 10, 11, 12, 13, 7, 14, 15, 16, 17, 18, 19, 20, 21, 22, 23, 24, 25, 26, 27, 28, 29, 30, 31, 32, 33, 34, 35, 36, 37, 38, 39, 40, 41, 42, 43, 44, 45, 46, 47, 48, 49, 50, 51, 52, 53, 54, 55, 56, 57, 58, 59, 60, 61, 62, 63, 64, 65, 66, 67, 68, 69, 70, 71, 72, 73, 74, 75, 76, 77, 78, 79, 80, 81, 82, 83, 84, 85, 86, 87, 88, 89, 90, 91, 92, 93, 94, 95, 96, 97, 98, 99, 100, 101, 102, 103, 104, 105, 106, 107, 108, 109, 110, 111, 112, 113, 114, 115, 116, 117, 118, 119] (by decide +kernel) (by decide +kernel)) (goodIn_sub (fun _ h => List.mem_cons_of_mem _ (List.mem_append_left _ (List.mem_append_left _ (List.mem_append_right _ h)))) (by decide +kernel))) (goodIn_sub (fun _ h => List.mem_cons_of_mem _ (List.mem_append_left _ (List.mem_append_right _ h))) (by decide +kernel))) (goodIn_sub (fun _ h => List.mem_cons_of_mem _ (List.mem_append_right _ h)) (by decide +kernel))
set_option maxRecDepth 20000 in
theorem gL_neededMark_X11_neededMark : GoodIn wsL_neededMark (wsV RL 89 RX11 yX11_neededMark wsX11_neededMark) := goodIn_app (goodIn_of _ (by decide +kernel)) ggL_neededMark_X11_neededMark
theorem dL_neededMark_0 : decode cL_neededMark 0 = .ok (.aload_n 0, 1) := by decide +kernel
theorem dL_neededMark_1 : decode cL_neededMark 1 = .ok (.iload_n 1, 1) := by decide +kernel
theorem dL_neededMark_2 : decode cL_neededMark 2 = .ok (.iload_n 2, 1) := by decide +kernel
theorem dL_neededMark_3 : decode cL_neededMark 3 = .ok (.iload_n 3, 1) := by decide +kernel
theorem dL_neededMark_4 : decode cL_neededMark 4 = .ok (.invokevirtual 89, 3) := by decide +kernel
theorem dL_neededMark_7 : decode cL_neededMark 7 = .ok (.ireturn, 1) := by decide +kernel
theorem dL_neededMark_8 : decode cL_neededMark 8 = .ok (.astore 4, 2) := by decide +kernel
theorem dL_neededMark_10 : decode cL_neededMark 10 = .ok (.sipush (-903), 3) := by decide +kernel
theorem dL_neededMark_13 : decode cL_neededMark 13 = .ok (.ireturn, 1) := by decide +kernel
theorem dL_neededMark_14 : decode cL_neededMark 14 = .ok (.astore 4, 2) := by decide +kernel
theorem dL_neededMark_16 : decode cL_neededMark 16 = .ok (.sipush (-901), 3) := by decide +kernel
theorem dL_neededMark_19 : decode cL_neededMark 19 = .ok (.ireturn, 1) := by decide +kernel
theorem dL_neededMark_20 : decode cL_neededMark 20 = .ok (.astore 4, 2) := by decide +kernel
theorem dL_neededMark_22 : decode cL_neededMark 22 = .ok (.sipush (-902), 3) := by decide +kernel
theorem dL_neededMark_25 : decode cL_neededMark 25 = .ok (.ireturn, 1) := by decide +kernel
set_option maxRecDepth 20000 in
theorem ggL_type_X11_type : GoodIn wsL_type wsX11_type := goodIn_ca (goodIn_ca (goodIn_r _ [7, 8, 9, 10, 6, 11, 12, 13, 14, 15, 16, 17, 18, 19, 20, 21, 22, 23, 24, 25, 26, 27, 28, 29, 30, 31, 32, 33, 34, 35, 36] (by decide +kernel) (by decide +kernel)) (goodIn_sub (fun _ h => List.mem_cons_of_mem _ (List.mem_append_left _ (List.mem_append_right _ h))) (by decide +kernel))) (goodIn_sub (fun _ h => List.mem_cons_of_mem _ (List.mem_append_right _ h)) (by decide +kernel))
set_option maxRecDepth 20000 in
theorem gL_type_X11_type : GoodIn wsL_type (wsV RL 92 RX11 yX11_type wsX11_type) := goodIn_app (goodIn_of _ (by decide +kernel)) ggL_type_X11_type
theorem dL_type_0 : decode cL_type 0 = .ok (.aload_n 0, 1) := by decide +kernel
theorem dL_type_1 : decode cL_type 1 = .ok (.iload_n 1, 1) := by decide +kernel
theorem dL_type_2 : decode cL_type 2 = .ok (.invokevirtual 92, 3) := by decide +kernel
theorem dL_type_5 : decode cL_type 5 = .ok (.ireturn, 1) := by decide +kernel
theorem dL_type_6 : decode cL_type 6 = .ok (.astore_n 2, 1) := by decide +kernel
theorem dL_type_7 : decode cL_type 7 = .ok (.sipush (-901), 3) := by decide +kernel
theorem dL_type_10 : decode cL_type 10 = .ok (.ireturn, 1) := by decide +kernel
theorem dL_type_11 : decode cL_type 11 = .ok (.astore_n 2, 1) := by decide +kernel
theorem dL_type_12 : decode cL_type 12 = .ok (.sipush (-902), 3) := by decide +kernel
theorem dL_type_15 : decode cL_type 15 = .ok (.ireturn, 1) := by decide +kernel
set_option maxRecDepth 20000 in
theorem ggL_undo_X11_undo : GoodIn wsL_undo wsX11_undo := goodIn_ca (goodIn_r _ [6, 7, 8, 9, 10, 5, 11, 12, 13, 14, 15, 16, 17, 18, 19, 20, 21, 22, 23, 24, 25, 26, 27, 28, 29, 30, 31, 32, 33, 34, 35, 36, 37, 38, 39, 40, 41, 42, 43, 44, 45, 46, 47, 48, 49, 50, 51, 52, 53, 54, 55, 56, 57, 58, 59, 60, 61, 62, 63, 64, 65, 66, 67, 68, 69, 70, 71, 72, 73, 74, 75, 76, 77, 78, 79, 80, 81, 82, 83, 84, 85, 86, 87, 88, 89, 90, 91, 92, 93, 94, 95, 96, 97, 98, 99, 100, 101, 102, 103, 104, 105, 106, 107, 108, 109, 110, 111, 112, 113, 114, 115, 116, 117, 118, 119, 120, 121, 122, 123, 124, 125, 126, 127, 128, 129, 130, 131, 132, 133, 134, 135, 136, 137, 138, 139, 140, 141, 142, 143] (by decide +kernel) (by decide +kernel)) (goodIn_sub (fun _ h => List.mem_cons_of_mem _ (List.mem_append_right _ h)) (by decide +kernel))
set_option maxRecDepth 20000 in
theorem gL_undo_X11_undo : GoodIn wsL_undo (wsV RL 95 RX11 yX11_undo wsX11_undo) := goodIn_app (goodIn_of _ (by decide +kernel)) ggL_undo_X11_undo
theorem dL_undo_0 : decode cL_undo 0 = .ok (.aload_n 0, 1) := by decide +kernel
theorem dL_undo_1 : decode cL_undo 1 = .ok (.invokevirtual 95, 3) := by decide +kernel
theorem dL_undo_4 : decode cL_undo 4 = .ok (.ireturn, 1) := by decide +kernel
theorem dL_undo_5 : decode cL_undo 5 = .ok (.astore_n 1, 1) := by decide +kernel
theorem dL_undo_6 : decode cL_undo 6 = .ok (.sipush (-902), 3) := by decide +kernel
theorem dL_undo_9 : decode cL_undo 9 = .ok (.ireturn, 1) := by decide +kernel
set_option maxRecDepth 20000 in
theorem ggL_sound_L_info : GoodIn wsL_sound wsL_info := goodIn_ca (goodIn_r _ [5, 6, 7, 8, 9, 10, 11, 12, 13, 14, 15, 16, 17, 18, 19, 20, 21, 22, 23, 24, 25, 26, 27, 28, 29, 30, 31, 32, 33, 34, 35, 36, 37, 38, 39, 40, 41, 42, 43, 44, 45, 46, 47, 48, 49, 50, 51, 52, 53, 54, 55, 188, 189, 190, 191, 192, 193, 194, 195, 196, 197, 198, 199, 200, 201, 202, 203, 204, 205, 206, 207, 208, 209, 210, 211, 212, 213, 214, 215, 216, 217, 218, 219, 220, 221] (by decide +kernel) (by decide +kernel)) (goodIn_sub (fun _ h => List.mem_cons_of_mem _ (List.mem_append_left _ (List.mem_append_right _ h))) (by decide +kernel))
set_option maxRecDepth 20000 in
theorem gL_sound_L_info : GoodIn wsL_sound (va_wsS RL 98 yL_info wsL_info) := goodIn_app (goodIn_of _ (by decide +kernel)) ggL_sound_L_info
set_option maxRecDepth 20000 in
theorem ggL_sound_X11_stage : GoodIn wsL_sound wsX11_stage := goodIn_r _ [59, 12, 60, 61, 62, 63, 64, 65, 66, 188, 189, 190, 191, 192, 193, 194, 195, 196, 197, 198, 199, 200, 201, 202, 203, 204, 213, 214, 215, 216, 217] (by decide +kernel) (by decide +kernel)
set_option maxRecDepth 20000 in
theorem gL_sound_X11_stage : GoodIn wsL_sound (wsV RL 103 RX11 yX11_stage wsX11_stage) := goodIn_app (goodIn_of _ (by decide +kernel)) ggL_sound_X11_stage
set_option maxRecDepth 20000 in
theorem ggL_sound_L_entrant : GoodIn wsL_sound wsL_entrant := goodIn_ca (goodIn_ca (goodIn_r _ [69, 70, 6, 71, 72, 73, 10, 74, 12, 75, 76, 77, 78, 79, 47, 48, 38, 49, 40, 80, 81, 82, 83, 84, 13, 14, 15, 16, 17, 18, 19, 20, 85, 86, 87, 24, 88, 32, 33, 34, 26, 89, 42, 43, 44, 45, 46, 90, 91, 92, 63, 93, 65, 94, 61, 62, 64, 66, 95, 96, 97, 98, 99, 100, 101, 102, 103, 104, 105, 106, 107, 29, 108, 109, 110, 111, 112, 113, 114, 115, 116, 117, 118, 119, 120, 121, 122, 123, 124, 125, 126, 127, 128, 129, 130, 131, 132, 133, 134, 135, 136, 137, 138, 139, 140, 141, 28, 142, 143, 144, 145, 146, 147, 148, 149, 150, 151, 152, 153, 154, 155, 156, 157, 158, 159, 160, 161, 162, 163, 164, 165, 53, 166, 55, 167, 168, 169, 170, 171, 188, 189, 190, 191, 192, 193, 194, 195, 196, 197, 198, 199, 200, 201, 202, 203, 204, 211, 212, 218, 219, 220, 221, 213, 214, 215, 216, 217, 205, 206, 222] (by decide +kernel) (by decide +kernel)) (goodIn_sub (fun _ h => List.mem_cons_of_mem _ (List.mem_append_right _ h)) (by decide +kernel))) (goodIn_sub (fun _ h => List.mem_cons_of_mem _ (List.mem_append_left _ (List.mem_append_right _ h))) (by decide +kernel))
set_option maxRecDepth 20000 in
theorem gL_sound_L_entrant : GoodIn wsL_sound (va_wsS RL 106 yL_entrant wsL_entrant) := goodIn_app (goodIn_of _ (by decide +kernel)) ggL_sound_L_entrant
set_option maxRecDepth 20000 in
theorem ggL_sound_L_marked : GoodIn wsL_sound wsL_marked := goodIn_ca (goodIn_r _ [174, 70, 175, 176, 177, 10, 178, 12, 179, 180, 181, 182, 183, 184, 185, 112, 186, 114, 80, 81, 82, 83, 84, 75, 76, 77, 78, 79, 47, 48, 38, 49, 40, 187, 120, 121, 122, 123, 124, 188, 189, 190, 191, 192, 193, 194, 195, 196, 197, 198, 199, 200, 201, 202, 203, 204, 218, 219, 220, 221, 205, 206, 211, 212, 222] (by decide +kernel) (by decide +kernel)) (goodIn_sub (fun _ h => List.mem_cons_of_mem _ (List.mem_append_right _ h)) (by decide +kernel))
set_option maxRecDepth 20000 in
theorem gL_sound_L_marked : GoodIn wsL_sound (va_wsS RL 109 yL_marked wsL_marked) := goodIn_app (goodIn_of _ (by decide +kernel)) ggL_sound_L_marked
theorem dL_sound_0 : decode cL_sound 0 = .ok (.aload_n 0, 1) := by decide +kernel
theorem dL_sound_1 : decode cL_sound 1 = .ok (.iconst 3, 1) := by decide +kernel
theorem dL_sound_2 : decode cL_sound 2 = .ok (.invokestatic 98, 3) := by decide +kernel
theorem dL_sound_5 : decode cL_sound 5 = .ok (.istore_n 1, 1) := by decide +kernel
theorem dL_sound_6 : decode cL_sound 6 = .ok (.aload_n 0, 1) := by decide +kernel
theorem dL_sound_7 : decode cL_sound 7 = .ok (.bipush 6, 2) := by decide +kernel
theorem dL_sound_9 : decode cL_sound 9 = .ok (.invokestatic 98, 3) := by decide +kernel
theorem dL_sound_12 : decode cL_sound 12 = .ok (.istore_n 2, 1) := by decide +kernel
theorem dL_sound_13 : decode cL_sound 13 = .ok (.aload_n 0, 1) := by decide +kernel
theorem dL_sound_14 : decode cL_sound 14 = .ok (.iconst 0, 1) := by decide +kernel
theorem dL_sound_15 : decode cL_sound 15 = .ok (.invokestatic 98, 3) := by decide +kernel
theorem dL_sound_18 : decode cL_sound 18 = .ok (.istore_n 3, 1) := by decide +kernel
theorem dL_sound_19 : decode cL_sound 19 = .ok (.aload_n 0, 1) := by decide +kernel
theorem dL_sound_20 : decode cL_sound 20 = .ok (.bipush 8, 2) := by decide +kernel
theorem dL_sound_22 : decode cL_sound 22 = .ok (.invokestatic 98, 3) := by decide +kernel
theorem dL_sound_25 : decode cL_sound 25 = .ok (.istore 4, 2) := by decide +kernel
theorem dL_sound_27 : decode cL_sound 27 = .ok (.iconst 0, 1) := by decide +kernel
theorem dL_sound_28 : decode cL_sound 28 = .ok (.istore 5, 2) := by decide +kernel
theorem dL_sound_30 : decode cL_sound 30 = .ok (.iconst 0, 1) := by decide +kernel
theorem dL_sound_31 : decode cL_sound 31 = .ok (.istore 6, 2) := by decide +kernel
theorem dL_sound_33 : decode cL_sound 33 = .ok (.iconst 0, 1) := by decide +kernel
theorem dL_sound_34 : decode cL_sound 34 = .ok (.istore 7, 2) := by decide +kernel
theorem dL_sound_36 : decode cL_sound 36 = .ok (.iconst 0, 1) := by decide +kernel
theorem dL_sound_37 : decode cL_sound 37 = .ok (.istore 8, 2) := by decide +kernel
theorem dL_sound_39 : decode cL_sound 39 = .ok (.iload 8, 2) := by decide +kernel
theorem dL_sound_41 : decode cL_sound 41 = .ok (.iload 4, 2) := by decide +kernel
theorem dL_sound_43 : decode cL_sound 43 = .ok (.if_icmp .ge 134, 3) := by decide +kernel
theorem dL_sound_46 : decode cL_sound 46 = .ok (.aload_n 0, 1) := by decide +kernel
theorem dL_sound_47 : decode cL_sound 47 = .ok (.iload 8, 2) := by decide +kernel
theorem dL_sound_49 : decode cL_sound 49 = .ok (.invokevirtual 103, 3) := by decide +kernel
theorem dL_sound_52 : decode cL_sound 52 = .ok (.istore 9, 2) := by decide +kernel
theorem dL_sound_54 : decode cL_sound 54 = .ok (.iload 9, 2) := by decide +kernel
theorem dL_sound_56 : decode cL_sound 56 = .ok (.ifCond .lt 104, 3) := by decide +kernel
theorem dL_sound_59 : decode cL_sound 59 = .ok (.iload 9, 2) := by decide +kernel
theorem dL_sound_61 : decode cL_sound 61 = .ok (.iload_n 2, 1) := by decide +kernel
theorem dL_sound_62 : decode cL_sound 62 = .ok (.if_icmp .ge 98, 3) := by decide +kernel
theorem dL_sound_65 : decode cL_sound 65 = .ok (.iload 6, 2) := by decide +kernel
theorem dL_sound_67 : decode cL_sound 67 = .ok (.iload 9, 2) := by decide +kernel
theorem dL_sound_69 : decode cL_sound 69 = .ok (.ishr, 1) := by decide +kernel
theorem dL_sound_70 : decode cL_sound 70 = .ok (.iconst 1, 1) := by decide +kernel
theorem dL_sound_71 : decode cL_sound 71 = .ok (.iand, 1) := by decide +kernel
theorem dL_sound_72 : decode cL_sound 72 = .ok (.iconst 1, 1) := by decide +kernel
theorem dL_sound_73 : decode cL_sound 73 = .ok (.if_icmp .eq 87, 3) := by decide +kernel
theorem dL_sound_76 : decode cL_sound 76 = .ok (.aload_n 0, 1) := by decide +kernel
theorem dL_sound_77 : decode cL_sound 77 = .ok (.iload 9, 2) := by decide +kernel
theorem dL_sound_79 : decode cL_sound 79 = .ok (.iconst 1, 1) := by decide +kernel
theorem dL_sound_80 : decode cL_sound 80 = .ok (.invokestatic 106, 3) := by decide +kernel
theorem dL_sound_83 : decode cL_sound 83 = .ok (.iload 8, 2) := by decide +kernel
theorem dL_sound_85 : decode cL_sound 85 = .ok (.if_icmp .ne 75, 3) := by decide +kernel
theorem dL_sound_88 : decode cL_sound 88 = .ok (.aload_n 0, 1) := by decide +kernel
theorem dL_sound_89 : decode cL_sound 89 = .ok (.iload 9, 2) := by decide +kernel
theorem dL_sound_91 : decode cL_sound 91 = .ok (.iconst 2, 1) := by decide +kernel
theorem dL_sound_92 : decode cL_sound 92 = .ok (.invokestatic 106, 3) := by decide +kernel
theorem dL_sound_95 : decode cL_sound 95 = .ok (.ifCond .lt 7, 3) := by decide +kernel
theorem dL_sound_98 : decode cL_sound 98 = .ok (.iconst 1, 1) := by decide +kernel
theorem dL_sound_99 : decode cL_sound 99 = .ok (.goto 4, 3) := by decide +kernel
theorem dL_sound_102 : decode cL_sound 102 = .ok (.iconst 0, 1) := by decide +kernel
theorem dL_sound_103 : decode cL_sound 103 = .ok (.iload 8, 2) := by decide +kernel
theorem dL_sound_105 : decode cL_sound 105 = .ok (.aload_n 0, 1) := by decide +kernel
theorem dL_sound_106 : decode cL_sound 106 = .ok (.bipush 9, 2) := by decide +kernel
theorem dL_sound_108 : decode cL_sound 108 = .ok (.invokestatic 98, 3) := by decide +kernel
theorem dL_sound_111 : decode cL_sound 111 = .ok (.if_icmp .ge 7, 3) := by decide +kernel
theorem dL_sound_114 : decode cL_sound 114 = .ok (.iconst 1, 1) := by decide +kernel
theorem dL_sound_115 : decode cL_sound 115 = .ok (.goto 4, 3) := by decide +kernel
theorem dL_sound_118 : decode cL_sound 118 = .ok (.iconst 0, 1) := by decide +kernel
theorem dL_sound_119 : decode cL_sound 119 = .ok (.if_icmp .ne 41, 3) := by decide +kernel
theorem dL_sound_122 : decode cL_sound 122 = .ok (.iload_n 1, 1) := by decide +kernel
theorem dL_sound_123 : decode cL_sound 123 = .ok (.iconst 1, 1) := by decide +kernel
theorem dL_sound_124 : decode cL_sound 124 = .ok (.if_icmp .ne 38, 3) := by decide +kernel
theorem dL_sound_127 : decode cL_sound 127 = .ok (.aload_n 0, 1) := by decide +kernel
theorem dL_sound_128 : decode cL_sound 128 = .ok (.iload 9, 2) := by decide +kernel
theorem dL_sound_130 : decode cL_sound 130 = .ok (.iconst 0, 1) := by decide +kernel
theorem dL_sound_131 : decode cL_sound 131 = .ok (.invokestatic 106, 3) := by decide +kernel
theorem dL_sound_134 : decode cL_sound 134 = .ok (.iconst 1, 1) := by decide +kernel
theorem dL_sound_135 : decode cL_sound 135 = .ok (.if_icmp .ne 25, 3) := by decide +kernel
theorem dL_sound_138 : decode cL_sound 138 = .ok (.iload 8, 2) := by decide +kernel
theorem dL_sound_140 : decode cL_sound 140 = .ok (.aload_n 0, 1) := by decide +kernel
theorem dL_sound_141 : decode cL_sound 141 = .ok (.bipush 9, 2) := by decide +kernel
theorem dL_sound_143 : decode cL_sound 143 = .ok (.invokestatic 98, 3) := by decide +kernel
theorem dL_sound_146 : decode cL_sound 146 = .ok (.if_icmp .lt 16, 3) := by decide +kernel
theorem dL_sound_149 : decode cL_sound 149 = .ok (.aload_n 0, 1) := by decide +kernel
theorem dL_sound_150 : decode cL_sound 150 = .ok (.iload 9, 2) := by decide +kernel
theorem dL_sound_152 : decode cL_sound 152 = .ok (.iconst 4, 1) := by decide +kernel
theorem dL_sound_153 : decode cL_sound 153 = .ok (.invokestatic 106, 3) := by decide +kernel
theorem dL_sound_156 : decode cL_sound 156 = .ok (.iconst (-1), 1) := by decide +kernel
theorem dL_sound_157 : decode cL_sound 157 = .ok (.if_icmp .eq 5, 3) := by decide +kernel
theorem dL_sound_160 : decode cL_sound 160 = .ok (.iconst 0, 1) := by decide +kernel
theorem dL_sound_161 : decode cL_sound 161 = .ok (.ireturn, 1) := by decide +kernel
theorem dL_sound_162 : decode cL_sound 162 = .ok (.iload 6, 2) := by decide +kernel
theorem dL_sound_164 : decode cL_sound 164 = .ok (.iconst 1, 1) := by decide +kernel
theorem dL_sound_165 : decode cL_sound 165 = .ok (.iload 9, 2) := by decide +kernel
theorem dL_sound_167 : decode cL_sound 167 = .ok (.ishl, 1) := by decide +kernel
theorem dL_sound_168 : decode cL_sound 168 = .ok (.ior, 1) := by decide +kernel
theorem dL_sound_169 : decode cL_sound 169 = .ok (.istore 6, 2) := by decide +kernel
theorem dL_sound_171 : decode cL_sound 171 = .ok (.iinc 8 1, 3) := by decide +kernel
theorem dL_sound_174 : decode cL_sound 174 = .ok (.goto (-135), 3) := by decide +kernel
theorem dL_sound_177 : decode cL_sound 177 = .ok (.iconst 0, 1) := by decide +kernel
theorem dL_sound_178 : decode cL_sound 178 = .ok (.istore 8, 2) := by decide +kernel
theorem dL_sound_180 : decode cL_sound 180 = .ok (.iload 8, 2) := by decide +kernel
theorem dL_sound_182 : decode cL_sound 182 = .ok (.iload_n 2, 1) := by decide +kernel
theorem dL_sound_183 : decode cL_sound 183 = .ok (.if_icmp .ge 383, 3) := by decide +kernel
theorem dL_sound_186 : decode cL_sound 186 = .ok (.iload 5, 2) := by decide +kernel
theorem dL_sound_188 : decode cL_sound 188 = .ok (.aload_n 0, 1) := by decide +kernel
theorem dL_sound_189 : decode cL_sound 189 = .ok (.iload 8, 2) := by decide +kernel
theorem dL_sound_191 : decode cL_sound 191 = .ok (.iconst 0, 1) := by decide +kernel
theorem dL_sound_192 : decode cL_sound 192 = .ok (.invokestatic 106, 3) := by decide +kernel
theorem dL_sound_195 : decode cL_sound 195 = .ok (.iadd, 1) := by decide +kernel
theorem dL_sound_196 : decode cL_sound 196 = .ok (.istore 5, 2) := by decide +kernel
theorem dL_sound_198 : decode cL_sound 198 = .ok (.iload 7, 2) := by decide +kernel
theorem dL_sound_200 : decode cL_sound 200 = .ok (.aload_n 0, 1) := by decide +kernel
theorem dL_sound_201 : decode cL_sound 201 = .ok (.iload 8, 2) := by decide +kernel
theorem dL_sound_203 : decode cL_sound 203 = .ok (.bipush 6, 2) := by decide +kernel
theorem dL_sound_205 : decode cL_sound 205 = .ok (.invokestatic 106, 3) := by decide +kernel
theorem dL_sound_208 : decode cL_sound 208 = .ok (.iadd, 1) := by decide +kernel
theorem dL_sound_209 : decode cL_sound 209 = .ok (.istore 7, 2) := by decide +kernel
theorem dL_sound_211 : decode cL_sound 211 = .ok (.iconst 0, 1) := by decide +kernel
theorem dL_sound_212 : decode cL_sound 212 = .ok (.istore 9, 2) := by decide +kernel
theorem dL_sound_214 : decode cL_sound 214 = .ok (.iconst 0, 1) := by decide +kernel
theorem dL_sound_215 : decode cL_sound 215 = .ok (.istore 10, 2) := by decide +kernel
theorem dL_sound_217 : decode cL_sound 217 = .ok (.iconst 0, 1) := by decide +kernel
theorem dL_sound_218 : decode cL_sound 218 = .ok (.istore 11, 2) := by decide +kernel
theorem dL_sound_220 : decode cL_sound 220 = .ok (.iconst 0, 1) := by decide +kernel
theorem dL_sound_221 : decode cL_sound 221 = .ok (.istore 12, 2) := by decide +kernel
theorem dL_sound_223 : decode cL_sound 223 = .ok (.iload 12, 2) := by decide +kernel
theorem dL_sound_225 : decode cL_sound 225 = .ok (.iload_n 3, 1) := by decide +kernel
theorem dL_sound_226 : decode cL_sound 226 = .ok (.if_icmp .ge 128, 3) := by decide +kernel
theorem dL_sound_229 : decode cL_sound 229 = .ok (.aload_n 0, 1) := by decide +kernel
theorem dL_sound_230 : decode cL_sound 230 = .ok (.iload 12, 2) := by decide +kernel
theorem dL_sound_232 : decode cL_sound 232 = .ok (.iload 8, 2) := by decide +kernel
theorem dL_sound_234 : decode cL_sound 234 = .ok (.iconst 0, 1) := by decide +kernel
theorem dL_sound_235 : decode cL_sound 235 = .ok (.invokestatic 109, 3) := by decide +kernel
theorem dL_sound_238 : decode cL_sound 238 = .ok (.istore 13, 2) := by decide +kernel
theorem dL_sound_240 : decode cL_sound 240 = .ok (.iload 10, 2) := by decide +kernel
theorem dL_sound_242 : decode cL_sound 242 = .ok (.iload 13, 2) := by decide +kernel
theorem dL_sound_244 : decode cL_sound 244 = .ok (.ifCond .lt 7, 3) := by decide +kernel
theorem dL_sound_247 : decode cL_sound 247 = .ok (.iconst 1, 1) := by decide +kernel
theorem dL_sound_248 : decode cL_sound 248 = .ok (.goto 4, 3) := by decide +kernel
theorem dL_sound_251 : decode cL_sound 251 = .ok (.iconst 0, 1) := by decide +kernel
theorem dL_sound_252 : decode cL_sound 252 = .ok (.iadd, 1) := by decide +kernel
theorem dL_sound_253 : decode cL_sound 253 = .ok (.istore 10, 2) := by decide +kernel
theorem dL_sound_255 : decode cL_sound 255 = .ok (.iload 9, 2) := by decide +kernel
theorem dL_sound_257 : decode cL_sound 257 = .ok (.iload 13, 2) := by decide +kernel
theorem dL_sound_259 : decode cL_sound 259 = .ok (.ifCond .lt 7, 3) := by decide +kernel
theorem dL_sound_262 : decode cL_sound 262 = .ok (.iconst 1, 1) := by decide +kernel
theorem dL_sound_263 : decode cL_sound 263 = .ok (.goto 4, 3) := by decide +kernel
theorem dL_sound_266 : decode cL_sound 266 = .ok (.iconst 0, 1) := by decide +kernel
theorem dL_sound_267 : decode cL_sound 267 = .ok (.iadd, 1) := by decide +kernel
theorem dL_sound_268 : decode cL_sound 268 = .ok (.istore 9, 2) := by decide +kernel
theorem dL_sound_270 : decode cL_sound 270 = .ok (.iload 11, 2) := by decide +kernel
theorem dL_sound_272 : decode cL_sound 272 = .ok (.ifCond .ne 9, 3) := by decide +kernel
theorem dL_sound_275 : decode cL_sound 275 = .ok (.iload 13, 2) := by decide +kernel
theorem dL_sound_277 : decode cL_sound 277 = .ok (.iconst (-1), 1) := by decide +kernel
theorem dL_sound_278 : decode cL_sound 278 = .ok (.if_icmp .ne 7, 3) := by decide +kernel
theorem dL_sound_281 : decode cL_sound 281 = .ok (.iconst 1, 1) := by decide +kernel
theorem dL_sound_282 : decode cL_sound 282 = .ok (.goto 4, 3) := by decide +kernel
theorem dL_sound_285 : decode cL_sound 285 = .ok (.iconst 0, 1) := by decide +kernel
theorem dL_sound_286 : decode cL_sound 286 = .ok (.istore 11, 2) := by decide +kernel
theorem dL_sound_288 : decode cL_sound 288 = .ok (.iload 13, 2) := by decide +kernel
theorem dL_sound_290 : decode cL_sound 290 = .ok (.bipush (-2), 2) := by decide +kernel
theorem dL_sound_292 : decode cL_sound 292 = .ok (.if_icmp .lt 54, 3) := by decide +kernel
theorem dL_sound_295 : decode cL_sound 295 = .ok (.iload 13, 2) := by decide +kernel
theorem dL_sound_297 : decode cL_sound 297 = .ok (.bipush 100, 2) := by decide +kernel
theorem dL_sound_299 : decode cL_sound 299 = .ok (.if_icmp .gt 47, 3) := by decide +kernel
theorem dL_sound_302 : decode cL_sound 302 = .ok (.aload_n 0, 1) := by decide +kernel
theorem dL_sound_303 : decode cL_sound 303 = .ok (.iload 12, 2) := by decide +kernel
theorem dL_sound_305 : decode cL_sound 305 = .ok (.iload 8, 2) := by decide +kernel
theorem dL_sound_307 : decode cL_sound 307 = .ok (.iconst 1, 1) := by decide +kernel
theorem dL_sound_308 : decode cL_sound 308 = .ok (.invokestatic 109, 3) := by decide +kernel
theorem dL_sound_311 : decode cL_sound 311 = .ok (.bipush 10, 2) := by decide +kernel
theorem dL_sound_313 : decode cL_sound 313 = .ok (.if_icmp .gt 33, 3) := by decide +kernel
theorem dL_sound_316 : decode cL_sound 316 = .ok (.aload_n 0, 1) := by decide +kernel
theorem dL_sound_317 : decode cL_sound 317 = .ok (.iload 12, 2) := by decide +kernel
theorem dL_sound_319 : decode cL_sound 319 = .ok (.iload 8, 2) := by decide +kernel
theorem dL_sound_321 : decode cL_sound 321 = .ok (.iconst 1, 1) := by decide +kernel
theorem dL_sound_322 : decode cL_sound 322 = .ok (.invokestatic 109, 3) := by decide +kernel
theorem dL_sound_325 : decode cL_sound 325 = .ok (.iconst (-1), 1) := by decide +kernel
theorem dL_sound_326 : decode cL_sound 326 = .ok (.if_icmp .eq 22, 3) := by decide +kernel
theorem dL_sound_329 : decode cL_sound 329 = .ok (.iload_n 1, 1) := by decide +kernel
theorem dL_sound_330 : decode cL_sound 330 = .ok (.iconst 2, 1) := by decide +kernel
theorem dL_sound_331 : decode cL_sound 331 = .ok (.if_icmp .ne 15, 3) := by decide +kernel
theorem dL_sound_334 : decode cL_sound 334 = .ok (.aload_n 0, 1) := by decide +kernel
theorem dL_sound_335 : decode cL_sound 335 = .ok (.iload 8, 2) := by decide +kernel
theorem dL_sound_337 : decode cL_sound 337 = .ok (.bipush 6, 2) := by decide +kernel
theorem dL_sound_339 : decode cL_sound 339 = .ok (.invokestatic 106, 3) := by decide +kernel
theorem dL_sound_342 : decode cL_sound 342 = .ok (.iconst 1, 1) := by decide +kernel
theorem dL_sound_343 : decode cL_sound 343 = .ok (.if_icmp .eq 5, 3) := by decide +kernel
theorem dL_sound_346 : decode cL_sound 346 = .ok (.iconst 0, 1) := by decide +kernel
theorem dL_sound_347 : decode cL_sound 347 = .ok (.ireturn, 1) := by decide +kernel
theorem dL_sound_348 : decode cL_sound 348 = .ok (.iinc 12 1, 3) := by decide +kernel
theorem dL_sound_351 : decode cL_sound 351 = .ok (.goto (-128), 3) := by decide +kernel
theorem dL_sound_354 : decode cL_sound 354 = .ok (.aload_n 0, 1) := by decide +kernel
theorem dL_sound_355 : decode cL_sound 355 = .ok (.iload 8, 2) := by decide +kernel
theorem dL_sound_357 : decode cL_sound 357 = .ok (.iconst 4, 1) := by decide +kernel
theorem dL_sound_358 : decode cL_sound 358 = .ok (.invokestatic 106, 3) := by decide +kernel
theorem dL_sound_361 : decode cL_sound 361 = .ok (.istore 12, 2) := by decide +kernel
theorem dL_sound_363 : decode cL_sound 363 = .ok (.iload 6, 2) := by decide +kernel
theorem dL_sound_365 : decode cL_sound 365 = .ok (.iload 8, 2) := by decide +kernel
theorem dL_sound_367 : decode cL_sound 367 = .ok (.ishr, 1) := by decide +kernel
theorem dL_sound_368 : decode cL_sound 368 = .ok (.iconst 1, 1) := by decide +kernel
theorem dL_sound_369 : decode cL_sound 369 = .ok (.iand, 1) := by decide +kernel
theorem dL_sound_370 : decode cL_sound 370 = .ok (.iconst 1, 1) := by decide +kernel
theorem dL_sound_371 : decode cL_sound 371 = .ok (.if_icmp .ne 7, 3) := by decide +kernel
theorem dL_sound_374 : decode cL_sound 374 = .ok (.iconst 1, 1) := by decide +kernel
theorem dL_sound_375 : decode cL_sound 375 = .ok (.goto 4, 3) := by decide +kernel
theorem dL_sound_378 : decode cL_sound 378 = .ok (.iconst 0, 1) := by decide +kernel
theorem dL_sound_379 : decode cL_sound 379 = .ok (.istore 13, 2) := by decide +kernel
theorem dL_sound_381 : decode cL_sound 381 = .ok (.iload 13, 2) := by decide +kernel
theorem dL_sound_383 : decode cL_sound 383 = .ok (.ifCond .ne 57, 3) := by decide +kernel
theorem dL_sound_386 : decode cL_sound 386 = .ok (.aload_n 0, 1) := by decide +kernel
theorem dL_sound_387 : decode cL_sound 387 = .ok (.iload 8, 2) := by decide +kernel
theorem dL_sound_389 : decode cL_sound 389 = .ok (.iconst 1, 1) := by decide +kernel
theorem dL_sound_390 : decode cL_sound 390 = .ok (.invokestatic 106, 3) := by decide +kernel
theorem dL_sound_393 : decode cL_sound 393 = .ok (.iconst (-1), 1) := by decide +kernel
theorem dL_sound_394 : decode cL_sound 394 = .ok (.if_icmp .ne 164, 3) := by decide +kernel
theorem dL_sound_397 : decode cL_sound 397 = .ok (.aload_n 0, 1) := by decide +kernel
theorem dL_sound_398 : decode cL_sound 398 = .ok (.iload 8, 2) := by decide +kernel
theorem dL_sound_400 : decode cL_sound 400 = .ok (.iconst 2, 1) := by decide +kernel
theorem dL_sound_401 : decode cL_sound 401 = .ok (.invokestatic 106, 3) := by decide +kernel
theorem dL_sound_404 : decode cL_sound 404 = .ok (.iconst (-1), 1) := by decide +kernel
theorem dL_sound_405 : decode cL_sound 405 = .ok (.if_icmp .ne 153, 3) := by decide +kernel
theorem dL_sound_408 : decode cL_sound 408 = .ok (.iload 12, 2) := by decide +kernel
theorem dL_sound_410 : decode cL_sound 410 = .ok (.iconst (-1), 1) := by decide +kernel
theorem dL_sound_411 : decode cL_sound 411 = .ok (.if_icmp .ne 147, 3) := by decide +kernel
theorem dL_sound_414 : decode cL_sound 414 = .ok (.aload_n 0, 1) := by decide +kernel
theorem dL_sound_415 : decode cL_sound 415 = .ok (.iload 8, 2) := by decide +kernel
theorem dL_sound_417 : decode cL_sound 417 = .ok (.iconst 5, 1) := by decide +kernel
theorem dL_sound_418 : decode cL_sound 418 = .ok (.invokestatic 106, 3) := by decide +kernel
theorem dL_sound_421 : decode cL_sound 421 = .ok (.ifCond .ne 137, 3) := by decide +kernel
theorem dL_sound_424 : decode cL_sound 424 = .ok (.iload 10, 2) := by decide +kernel
theorem dL_sound_426 : decode cL_sound 426 = .ok (.ifCond .gt 132, 3) := by decide +kernel
theorem dL_sound_429 : decode cL_sound 429 = .ok (.aload_n 0, 1) := by decide +kernel
theorem dL_sound_430 : decode cL_sound 430 = .ok (.iload 8, 2) := by decide +kernel
theorem dL_sound_432 : decode cL_sound 432 = .ok (.bipush 6, 2) := by decide +kernel
theorem dL_sound_434 : decode cL_sound 434 = .ok (.invokestatic 106, 3) := by decide +kernel
theorem dL_sound_437 : decode cL_sound 437 = .ok (.ifCond .ne 121, 3) := by decide +kernel
theorem dL_sound_440 : decode cL_sound 440 = .ok (.iload 12, 2) := by decide +kernel
theorem dL_sound_442 : decode cL_sound 442 = .ok (.iconst (-1), 1) := by decide +kernel
theorem dL_sound_443 : decode cL_sound 443 = .ok (.if_icmp .lt 115, 3) := by decide +kernel
theorem dL_sound_446 : decode cL_sound 446 = .ok (.iload 12, 2) := by decide +kernel
theorem dL_sound_448 : decode cL_sound 448 = .ok (.ldc 112, 2) := by decide +kernel
theorem dL_sound_450 : decode cL_sound 450 = .ok (.if_icmp .gt 108, 3) := by decide +kernel
theorem dL_sound_453 : decode cL_sound 453 = .ok (.iload_n 1, 1) := by decide +kernel
theorem dL_sound_454 : decode cL_sound 454 = .ok (.iconst 2, 1) := by decide +kernel
theorem dL_sound_455 : decode cL_sound 455 = .ok (.if_icmp .eq 15, 3) := by decide +kernel
theorem dL_sound_458 : decode cL_sound 458 = .ok (.aload_n 0, 1) := by decide +kernel
theorem dL_sound_459 : decode cL_sound 459 = .ok (.iload 8, 2) := by decide +kernel
theorem dL_sound_461 : decode cL_sound 461 = .ok (.iconst 3, 1) := by decide +kernel
theorem dL_sound_462 : decode cL_sound 462 = .ok (.invokestatic 106, 3) := by decide +kernel
theorem dL_sound_465 : decode cL_sound 465 = .ok (.iload 9, 2) := by decide +kernel
theorem dL_sound_467 : decode cL_sound 467 = .ok (.if_icmp .gt 91, 3) := by decide +kernel
theorem dL_sound_470 : decode cL_sound 470 = .ok (.aload_n 0, 1) := by decide +kernel
theorem dL_sound_471 : decode cL_sound 471 = .ok (.iload 8, 2) := by decide +kernel
theorem dL_sound_473 : decode cL_sound 473 = .ok (.iconst 5, 1) := by decide +kernel
theorem dL_sound_474 : decode cL_sound 474 = .ok (.invokestatic 106, 3) := by decide +kernel
theorem dL_sound_477 : decode cL_sound 477 = .ok (.iconst 1, 1) := by decide +kernel
theorem dL_sound_478 : decode cL_sound 478 = .ok (.if_icmp .ne 11, 3) := by decide +kernel
theorem dL_sound_481 : decode cL_sound 481 = .ok (.iconst 2, 1) := by decide +kernel
theorem dL_sound_482 : decode cL_sound 482 = .ok (.iload 10, 2) := by decide +kernel
theorem dL_sound_484 : decode cL_sound 484 = .ok (.imul, 1) := by decide +kernel
theorem dL_sound_485 : decode cL_sound 485 = .ok (.iload_n 3, 1) := by decide +kernel
theorem dL_sound_486 : decode cL_sound 486 = .ok (.if_icmp .lt 72, 3) := by decide +kernel
theorem dL_sound_489 : decode cL_sound 489 = .ok (.aload_n 0, 1) := by decide +kernel
theorem dL_sound_490 : decode cL_sound 490 = .ok (.iload 8, 2) := by decide +kernel
theorem dL_sound_492 : decode cL_sound 492 = .ok (.bipush 6, 2) := by decide +kernel
theorem dL_sound_494 : decode cL_sound 494 = .ok (.invokestatic 106, 3) := by decide +kernel
theorem dL_sound_497 : decode cL_sound 497 = .ok (.iconst 1, 1) := by decide +kernel
theorem dL_sound_498 : decode cL_sound 498 = .ok (.if_icmp .ne 19, 3) := by decide +kernel
theorem dL_sound_501 : decode cL_sound 501 = .ok (.iload_n 1, 1) := by decide +kernel
theorem dL_sound_502 : decode cL_sound 502 = .ok (.iconst 2, 1) := by decide +kernel
theorem dL_sound_503 : decode cL_sound 503 = .ok (.if_icmp .ne 55, 3) := by decide +kernel
theorem dL_sound_506 : decode cL_sound 506 = .ok (.aload_n 0, 1) := by decide +kernel
theorem dL_sound_507 : decode cL_sound 507 = .ok (.iload 8, 2) := by decide +kernel
theorem dL_sound_509 : decode cL_sound 509 = .ok (.iconst 0, 1) := by decide +kernel
theorem dL_sound_510 : decode cL_sound 510 = .ok (.invokestatic 106, 3) := by decide +kernel
theorem dL_sound_513 : decode cL_sound 513 = .ok (.iconst 1, 1) := by decide +kernel
theorem dL_sound_514 : decode cL_sound 514 = .ok (.if_icmp .ne 44, 3) := by decide +kernel
theorem dL_sound_517 : decode cL_sound 517 = .ok (.iload_n 1, 1) := by decide +kernel
theorem dL_sound_518 : decode cL_sound 518 = .ok (.iconst 1, 1) := by decide +kernel
theorem dL_sound_519 : decode cL_sound 519 = .ok (.if_icmp .ne 24, 3) := by decide +kernel
theorem dL_sound_522 : decode cL_sound 522 = .ok (.iload 13, 2) := by decide +kernel
theorem dL_sound_524 : decode cL_sound 524 = .ok (.aload_n 0, 1) := by decide +kernel
theorem dL_sound_525 : decode cL_sound 525 = .ok (.iload 8, 2) := by decide +kernel
theorem dL_sound_527 : decode cL_sound 527 = .ok (.iconst 0, 1) := by decide +kernel
theorem dL_sound_528 : decode cL_sound 528 = .ok (.invokestatic 106, 3) := by decide +kernel
theorem dL_sound_531 : decode cL_sound 531 = .ok (.iconst 1, 1) := by decide +kernel
theorem dL_sound_532 : decode cL_sound 532 = .ok (.if_icmp .ne 7, 3) := by decide +kernel
theorem dL_sound_535 : decode cL_sound 535 = .ok (.iconst 1, 1) := by decide +kernel
theorem dL_sound_536 : decode cL_sound 536 = .ok (.goto 4, 3) := by decide +kernel
theorem dL_sound_539 : decode cL_sound 539 = .ok (.iconst 0, 1) := by decide +kernel
theorem dL_sound_540 : decode cL_sound 540 = .ok (.if_icmp .ne 18, 3) := by decide +kernel
theorem dL_sound_543 : decode cL_sound 543 = .ok (.iload 12, 2) := by decide +kernel
theorem dL_sound_545 : decode cL_sound 545 = .ok (.ifCond .lt 15, 3) := by decide +kernel
theorem dL_sound_548 : decode cL_sound 548 = .ok (.aload_n 0, 1) := by decide +kernel
theorem dL_sound_549 : decode cL_sound 549 = .ok (.iload 8, 2) := by decide +kernel
theorem dL_sound_551 : decode cL_sound 551 = .ok (.iconst 2, 1) := by decide +kernel
theorem dL_sound_552 : decode cL_sound 552 = .ok (.invokestatic 106, 3) := by decide +kernel
theorem dL_sound_555 : decode cL_sound 555 = .ok (.ifCond .ge 5, 3) := by decide +kernel
theorem dL_sound_558 : decode cL_sound 558 = .ok (.iconst 0, 1) := by decide +kernel
theorem dL_sound_559 : decode cL_sound 559 = .ok (.ireturn, 1) := by decide +kernel
theorem dL_sound_560 : decode cL_sound 560 = .ok (.iinc 8 1, 3) := by decide +kernel
theorem dL_sound_563 : decode cL_sound 563 = .ok (.goto (-383), 3) := by decide +kernel
theorem dL_sound_566 : decode cL_sound 566 = .ok (.iload 5, 2) := by decide +kernel
theorem dL_sound_568 : decode cL_sound 568 = .ok (.aload_n 0, 1) := by decide +kernel
theorem dL_sound_569 : decode cL_sound 569 = .ok (.bipush 7, 2) := by decide +kernel
theorem dL_sound_571 : decode cL_sound 571 = .ok (.invokestatic 98, 3) := by decide +kernel
theorem dL_sound_574 : decode cL_sound 574 = .ok (.if_icmp .ne 115, 3) := by decide +kernel
theorem dL_sound_577 : decode cL_sound 577 = .ok (.iload 7, 2) := by decide +kernel
theorem dL_sound_579 : decode cL_sound 579 = .ok (.aload_n 0, 1) := by decide +kernel
theorem dL_sound_580 : decode cL_sound 580 = .ok (.bipush 10, 2) := by decide +kernel
theorem dL_sound_582 : decode cL_sound 582 = .ok (.invokestatic 98, 3) := by decide +kernel
theorem dL_sound_585 : decode cL_sound 585 = .ok (.if_icmp .ne 104, 3) := by decide +kernel
theorem dL_sound_588 : decode cL_sound 588 = .ok (.aload_n 0, 1) := by decide +kernel
theorem dL_sound_589 : decode cL_sound 589 = .ok (.iload 4, 2) := by decide +kernel
theorem dL_sound_591 : decode cL_sound 591 = .ok (.invokevirtual 103, 3) := by decide +kernel
theorem dL_sound_594 : decode cL_sound 594 = .ok (.iconst (-1), 1) := by decide +kernel
theorem dL_sound_595 : decode cL_sound 595 = .ok (.if_icmp .ne 94, 3) := by decide +kernel
theorem dL_sound_598 : decode cL_sound 598 = .ok (.iload_n 1, 1) := by decide +kernel
theorem dL_sound_599 : decode cL_sound 599 = .ok (.iconst 2, 1) := by decide +kernel
theorem dL_sound_600 : decode cL_sound 600 = .ok (.if_icmp .ne 45, 3) := by decide +kernel
theorem dL_sound_603 : decode cL_sound 603 = .ok (.iload 7, 2) := by decide +kernel
theorem dL_sound_605 : decode cL_sound 605 = .ok (.aload_n 0, 1) := by decide +kernel
theorem dL_sound_606 : decode cL_sound 606 = .ok (.bipush 11, 2) := by decide +kernel
theorem dL_sound_608 : decode cL_sound 608 = .ok (.invokestatic 98, 3) := by decide +kernel
theorem dL_sound_611 : decode cL_sound 611 = .ok (.if_icmp .le 78, 3) := by decide +kernel
theorem dL_sound_614 : decode cL_sound 614 = .ok (.aload_n 0, 1) := by decide +kernel
theorem dL_sound_615 : decode cL_sound 615 = .ok (.bipush 11, 2) := by decide +kernel
theorem dL_sound_617 : decode cL_sound 617 = .ok (.invokestatic 98, 3) := by decide +kernel
theorem dL_sound_620 : decode cL_sound 620 = .ok (.ifCond .le 69, 3) := by decide +kernel
theorem dL_sound_623 : decode cL_sound 623 = .ok (.aload_n 0, 1) := by decide +kernel
theorem dL_sound_624 : decode cL_sound 624 = .ok (.bipush 12, 2) := by decide +kernel
theorem dL_sound_626 : decode cL_sound 626 = .ok (.invokestatic 98, 3) := by decide +kernel
theorem dL_sound_629 : decode cL_sound 629 = .ok (.ifCond .le 60, 3) := by decide +kernel
theorem dL_sound_632 : decode cL_sound 632 = .ok (.aload_n 0, 1) := by decide +kernel
theorem dL_sound_633 : decode cL_sound 633 = .ok (.bipush 12, 2) := by decide +kernel
theorem dL_sound_635 : decode cL_sound 635 = .ok (.invokestatic 98, 3) := by decide +kernel
theorem dL_sound_638 : decode cL_sound 638 = .ok (.iconst 4, 1) := by decide +kernel
theorem dL_sound_639 : decode cL_sound 639 = .ok (.if_icmp .ge 50, 3) := by decide +kernel
theorem dL_sound_642 : decode cL_sound 642 = .ok (.goto 26, 3) := by decide +kernel
theorem dL_sound_645 : decode cL_sound 645 = .ok (.iload 7, 2) := by decide +kernel
theorem dL_sound_647 : decode cL_sound 647 = .ok (.ifCond .ne 42, 3) := by decide +kernel
theorem dL_sound_650 : decode cL_sound 650 = .ok (.aload_n 0, 1) := by decide +kernel
theorem dL_sound_651 : decode cL_sound 651 = .ok (.bipush 11, 2) := by decide +kernel
theorem dL_sound_653 : decode cL_sound 653 = .ok (.invokestatic 98, 3) := by decide +kernel
theorem dL_sound_656 : decode cL_sound 656 = .ok (.ifCond .ne 33, 3) := by decide +kernel
theorem dL_sound_659 : decode cL_sound 659 = .ok (.aload_n 0, 1) := by decide +kernel
theorem dL_sound_660 : decode cL_sound 660 = .ok (.bipush 12, 2) := by decide +kernel
theorem dL_sound_662 : decode cL_sound 662 = .ok (.invokestatic 98, 3) := by decide +kernel
theorem dL_sound_665 : decode cL_sound 665 = .ok (.ifCond .ne 24, 3) := by decide +kernel
theorem dL_sound_668 : decode cL_sound 668 = .ok (.iload_n 1, 1) := by decide +kernel
theorem dL_sound_669 : decode cL_sound 669 = .ok (.ifCond .gt 16, 3) := by decide +kernel
theorem dL_sound_672 : decode cL_sound 672 = .ok (.iload 4, 2) := by decide +kernel
theorem dL_sound_674 : decode cL_sound 674 = .ok (.ifCond .ne 15, 3) := by decide +kernel
theorem dL_sound_677 : decode cL_sound 677 = .ok (.aload_n 0, 1) := by decide +kernel
theorem dL_sound_678 : decode cL_sound 678 = .ok (.iconst 4, 1) := by decide +kernel
theorem dL_sound_679 : decode cL_sound 679 = .ok (.invokestatic 98, 3) := by decide +kernel
theorem dL_sound_682 : decode cL_sound 682 = .ok (.ifCond .ne 7, 3) := by decide +kernel
theorem dL_sound_685 : decode cL_sound 685 = .ok (.iconst 1, 1) := by decide +kernel
theorem dL_sound_686 : decode cL_sound 686 = .ok (.goto 4, 3) := by decide +kernel
theorem dL_sound_689 : decode cL_sound 689 = .ok (.iconst 0, 1) := by decide +kernel
theorem dL_sound_690 : decode cL_sound 690 = .ok (.ireturn, 1) := by decide +kernel
set_option maxRecDepth 20000 in
theorem ggL_flaws_L_info : GoodIn wsL_flaws wsL_info := goodIn_ca (goodIn_r _ [4, 5, 6, 7, 8, 9, 10, 11, 12, 13, 14, 15, 16, 17, 18, 19, 20, 21, 22, 23, 24, 25, 26, 27, 28, 29, 30, 31, 32, 33, 34, 35, 36, 37, 38, 39, 40, 41, 42, 43, 44, 45, 46, 47, 48, 49, 50, 51, 52, 53, 54, 169, 170, 171, 172, 173, 174, 175, 176, 177, 178, 179, 180, 181, 182, 183, 184, 185, 186, 187, 188, 189, 190, 191, 192, 193, 194, 195, 196, 197, 198, 199, 200, 201, 202] (by decide +kernel) (by decide +kernel)) (goodIn_sub (fun _ h => List.mem_cons_of_mem _ (List.mem_append_left _ (List.mem_append_right _ h))) (by decide +kernel))
set_option maxRecDepth 20000 in
theorem gL_flaws_L_info : GoodIn wsL_flaws (va_wsS RL 98 yL_info wsL_info) := goodIn_app (goodIn_of _ (by decide +kernel)) ggL_flaws_L_info
set_option maxRecDepth 20000 in
theorem ggL_flaws_L_program : GoodIn wsL_flaws wsL_program := goodIn_ca (goodIn_r _ [57, 58, 59, 60, 61, 9, 62, 11, 63, 64, 65, 66, 67, 68, 69, 70, 71, 46, 47, 37, 48, 39, 72, 73, 74, 75, 76, 77, 78, 79, 12, 13, 14, 80, 81, 82, 83, 84, 85, 169, 170, 171, 172, 173, 174, 175, 176, 177, 178, 179, 180, 181, 182, 183, 184, 185, 192, 193, 203] (by decide +kernel) (by decide +kernel)) (goodIn_sub (fun _ h => List.mem_cons_of_mem _ (List.mem_append_right _ h)) (by decide +kernel))
set_option maxRecDepth 20000 in
theorem gL_flaws_L_program : GoodIn wsL_flaws (va_wsS RL 113 yL_program wsL_program) := goodIn_app (goodIn_of _ (by decide +kernel)) ggL_flaws_L_program
set_option maxRecDepth 20000 in
theorem ggL_flaws_L_work : GoodIn wsL_flaws wsL_work := goodIn_ca (goodIn_ca (goodIn_r _ [88, 58, 5, 89, 90, 91, 9, 92, 11, 93, 94, 95, 96, 97, 98, 72, 73, 74, 75, 76, 12, 13, 14, 15, 16, 17, 18, 19, 99, 100, 101, 102, 103, 104, 105, 106, 107, 108, 109, 110, 111, 112, 113, 114, 115, 116, 117, 118, 169, 170, 171, 172, 173, 174, 175, 176, 177, 178, 179, 180, 181, 182, 183, 184, 185, 188, 189, 190, 191] (by decide +kernel) (by decide +kernel)) (goodIn_sub (fun _ h => List.mem_cons_of_mem _ (List.mem_append_right _ h)) (by decide +kernel))) (goodIn_sub (fun _ h => List.mem_cons_of_mem _ (List.mem_append_left _ (List.mem_append_right _ h))) (by decide +kernel))
set_option maxRecDepth 20000 in
theorem gL_flaws_L_work : GoodIn wsL_flaws (va_wsS RL 116 yL_work wsL_work) := goodIn_app (goodIn_of _ (by decide +kernel)) ggL_flaws_L_work
set_option maxRecDepth 20000 in
theorem ggL_flaws_L_rule : GoodIn wsL_flaws wsL_rule := goodIn_ca (goodIn_ca (goodIn_r _ [121, 58, 5, 122, 123, 124, 9, 125, 11, 77, 78, 79, 12, 13, 14, 72, 73, 74, 75, 76, 15, 16, 17, 18, 19, 169, 170, 171, 172, 173, 174, 175, 176, 177, 178, 179, 180, 181, 182, 183, 184, 185] (by decide +kernel) (by decide +kernel)) (goodIn_sub (fun _ h => List.mem_cons_of_mem _ (List.mem_append_right _ h)) (by decide +kernel))) (goodIn_sub (fun _ h => List.mem_cons_of_mem _ (List.mem_append_left _ (List.mem_append_right _ h))) (by decide +kernel))
set_option maxRecDepth 20000 in
theorem gL_flaws_L_rule : GoodIn wsL_flaws (va_wsS RL 118 yL_rule wsL_rule) := goodIn_app (goodIn_of _ (by decide +kernel)) ggL_flaws_L_rule
set_option maxRecDepth 20000 in
theorem ggL_flaws_L_flaw : GoodIn wsL_flaws wsL_flaw := goodIn_ca (goodIn_r _ [128, 58, 129, 130, 131, 9, 132, 11, 63, 64, 65, 66, 67, 68, 69, 70, 71, 46, 47, 37, 48, 39, 72, 73, 74, 75, 76, 77, 78, 79, 12, 13, 14, 133, 134, 135, 83, 136, 137, 138, 139, 140, 141, 81, 82, 84, 85, 142, 143, 144, 145, 146, 115, 116, 96, 117, 118, 108, 94, 95, 97, 98, 147, 148, 149, 150, 151, 110, 111, 112, 113, 152, 153, 154, 155, 156, 157, 158, 159, 160, 104, 105, 106, 107, 161, 162, 163, 164, 165, 166, 167, 168, 169, 170, 171, 172, 173, 174, 175, 176, 177, 178, 179, 180, 181, 182, 183, 184, 185, 192, 193, 203, 188, 189, 190, 191] (by decide +kernel) (by decide +kernel)) (goodIn_sub (fun _ h => List.mem_cons_of_mem _ (List.mem_append_right _ h)) (by decide +kernel))
set_option maxRecDepth 20000 in
theorem gL_flaws_L_flaw : GoodIn wsL_flaws (va_wsS RL 120 yL_flaw wsL_flaw) := goodIn_app (goodIn_of _ (by decide +kernel)) ggL_flaws_L_flaw
