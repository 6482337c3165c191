theorem dX12_bar_14 : decode cX12_bar 14 = .ok (.ifCond .eq 7, 3) := by decide +kernel
theorem dX12_bar_17 : decode cX12_bar 17 = .ok (.iconst 0, 1) := by decide +kernel
theorem dX12_bar_18 : decode cX12_bar 18 = .ok (.goto 4, 3) := by decide +kernel
theorem dX12_bar_21 : decode cX12_bar 21 = .ok (.iconst 1, 1) := by decide +kernel
theorem dX12_bar_22 : decode cX12_bar 22 = .ok (.putfield 31, 3) := by decide +kernel
theorem dX12_bar_25 : decode cX12_bar 25 = .ok (.aload_n 0, 1) := by decide +kernel
theorem dX12_bar_26 : decode cX12_bar 26 = .ok (.getfield 31, 3) := by decide +kernel
theorem dX12_bar_29 : decode cX12_bar 29 = .ok (.ifCond .ne 33, 3) := by decide +kernel
theorem dX12_bar_32 : decode cX12_bar 32 = .ok (.aload_n 0, 1) := by decide +kernel
theorem dX12_bar_33 : decode cX12_bar 33 = .ok (.sipush 378, 3) := by decide +kernel
theorem dX12_bar_36 : decode cX12_bar 36 = .ok (.iload_n 1, 1) := by decide +kernel
theorem dX12_bar_37 : decode cX12_bar 37 = .ok (.iload_n 2, 1) := by decide +kernel
theorem dX12_bar_38 : decode cX12_bar 38 = .ok (.invokestatic 45, 3) := by decide +kernel
theorem dX12_bar_41 : decode cX12_bar 41 = .ok (.iadd, 1) := by decide +kernel
theorem dX12_bar_42 : decode cX12_bar 42 = .ok (.iload_n 3, 1) := by decide +kernel
theorem dX12_bar_43 : decode cX12_bar 43 = .ok (.ifCond .eq 7, 3) := by decide +kernel
theorem dX12_bar_46 : decode cX12_bar 46 = .ok (.iconst 1, 1) := by decide +kernel
theorem dX12_bar_47 : decode cX12_bar 47 = .ok (.goto 4, 3) := by decide +kernel
theorem dX12_bar_50 : decode cX12_bar 50 = .ok (.iconst 0, 1) := by decide +kernel
theorem dX12_bar_51 : decode cX12_bar 51 = .ok (.invokevirtual 56, 3) := by decide +kernel
theorem dX12_bar_54 : decode cX12_bar 54 = .ok (.iconst 1, 1) := by decide +kernel
theorem dX12_bar_55 : decode cX12_bar 55 = .ok (.if_icmp .ne 7, 3) := by decide +kernel
theorem dX12_bar_58 : decode cX12_bar 58 = .ok (.iconst 1, 1) := by decide +kernel
theorem dX12_bar_59 : decode cX12_bar 59 = .ok (.goto 4, 3) := by decide +kernel
theorem dX12_bar_62 : decode cX12_bar 62 = .ok (.iconst 0, 1) := by decide +kernel
theorem dX12_bar_63 : decode cX12_bar 63 = .ok (.ireturn, 1) := by decide +kernel
set_option maxRecDepth 20000 in
theorem ggX12_isSetting_X12_in : GoodIn wsX12_isSetting wsX12_in := goodIn_r _ [4] (by decide +kernel) (by decide +kernel)
set_option maxRecDepth 20000 in
theorem gX12_isSetting_X12_in : GoodIn wsX12_isSetting (va_wsS RX12 41 yX12_in wsX12_in) := goodIn_app (goodIn_of _ (by decide +kernel)) ggX12_isSetting_X12_in
theorem dX12_isSetting_0 : decode cX12_isSetting 0 = .ok (.iload_n 0, 1) := by decide +kernel
theorem dX12_isSetting_1 : decode cX12_isSetting 1 = .ok (.ifCond .ne 13, 3) := by decide +kernel
theorem dX12_isSetting_4 : decode cX12_isSetting 4 = .ok (.iload_n 1, 1) := by decide +kernel
theorem dX12_isSetting_5 : decode cX12_isSetting 5 = .ok (.iconst 3, 1) := by decide +kernel
theorem dX12_isSetting_6 : decode cX12_isSetting 6 = .ok (.bipush 7, 2) := by decide +kernel
theorem dX12_isSetting_8 : decode cX12_isSetting 8 = .ok (.invokestatic 41, 3) := by decide +kernel
theorem dX12_isSetting_11 : decode cX12_isSetting 11 = .ok (.goto 37, 3) := by decide +kernel
theorem dX12_isSetting_14 : decode cX12_isSetting 14 = .ok (.iload_n 0, 1) := by decide +kernel
theorem dX12_isSetting_15 : decode cX12_isSetting 15 = .ok (.iconst 1, 1) := by decide +kernel
theorem dX12_isSetting_16 : decode cX12_isSetting 16 = .ok (.if_icmp .ne 12, 3) := by decide +kernel
theorem dX12_isSetting_19 : decode cX12_isSetting 19 = .ok (.iload_n 1, 1) := by decide +kernel
theorem dX12_isSetting_20 : decode cX12_isSetting 20 = .ok (.iconst 1, 1) := by decide +kernel
theorem dX12_isSetting_21 : decode cX12_isSetting 21 = .ok (.iconst 4, 1) := by decide +kernel
theorem dX12_isSetting_22 : decode cX12_isSetting 22 = .ok (.invokestatic 41, 3) := by decide +kernel
theorem dX12_isSetting_25 : decode cX12_isSetting 25 = .ok (.goto 23, 3) := by decide +kernel
theorem dX12_isSetting_28 : decode cX12_isSetting 28 = .ok (.iload_n 0, 1) := by decide +kernel
theorem dX12_isSetting_29 : decode cX12_isSetting 29 = .ok (.iconst 2, 1) := by decide +kernel
theorem dX12_isSetting_30 : decode cX12_isSetting 30 = .ok (.if_icmp .ne 17, 3) := by decide +kernel
theorem dX12_isSetting_33 : decode cX12_isSetting 33 = .ok (.iload_n 1, 1) := by decide +kernel
theorem dX12_isSetting_34 : decode cX12_isSetting 34 = .ok (.iconst 0, 1) := by decide +kernel
theorem dX12_isSetting_35 : decode cX12_isSetting 35 = .ok (.bipush 100, 2) := by decide +kernel
theorem dX12_isSetting_37 : decode cX12_isSetting 37 = .ok (.invokestatic 41, 3) := by decide +kernel
theorem dX12_isSetting_40 : decode cX12_isSetting 40 = .ok (.ifCond .eq 7, 3) := by decide +kernel
theorem dX12_isSetting_43 : decode cX12_isSetting 43 = .ok (.iconst 1, 1) := by decide +kernel
theorem dX12_isSetting_44 : decode cX12_isSetting 44 = .ok (.goto 4, 3) := by decide +kernel
theorem dX12_isSetting_47 : decode cX12_isSetting 47 = .ok (.iconst 0, 1) := by decide +kernel
theorem dX12_isSetting_48 : decode cX12_isSetting 48 = .ok (.ireturn, 1) := by decide +kernel
set_option maxRecDepth 20000 in
theorem ggX12_set_X12_isSetting : GoodIn wsX12_set wsX12_isSetting := goodIn_r _ [6, 7, 8, 5, 9] (by decide +kernel) (by decide +kernel)
set_option maxRecDepth 20000 in
theorem gX12_set_X12_isSetting : GoodIn wsX12_set (va_wsS RX12 59 yX12_isSetting wsX12_isSetting) := goodIn_app (goodIn_of _ (by decide +kernel)) ggX12_set_X12_isSetting
set_option maxRecDepth 20000 in
theorem ggX12_set_X12_put : GoodIn wsX12_set wsX12_put := goodIn_r _ [13, 1, 14, 15, 16, 5, 17, 18, 19, 20, 21, 22, 23, 24, 25, 26, 27, 28, 29, 30, 31] (by decide +kernel) (by decide +kernel)
set_option maxRecDepth 20000 in
theorem gX12_set_X12_put : GoodIn wsX12_set (wsV RX12 56 RX12 yX12_put wsX12_put) := goodIn_app (goodIn_of _ (by decide +kernel)) ggX12_set_X12_put
theorem dX12_set_0 : decode cX12_set 0 = .ok (.aload_n 0, 1) := by decide +kernel
theorem dX12_set_1 : decode cX12_set 1 = .ok (.iload_n 1, 1) := by decide +kernel
theorem dX12_set_2 : decode cX12_set 2 = .ok (.iload_n 2, 1) := by decide +kernel
theorem dX12_set_3 : decode cX12_set 3 = .ok (.invokestatic 59, 3) := by decide +kernel
theorem dX12_set_6 : decode cX12_set 6 = .ok (.ifCond .ne 7, 3) := by decide +kernel
theorem dX12_set_9 : decode cX12_set 9 = .ok (.iconst 1, 1) := by decide +kernel
theorem dX12_set_10 : decode cX12_set 10 = .ok (.goto 22, 3) := by decide +kernel
theorem dX12_set_13 : decode cX12_set 13 = .ok (.iload_n 1, 1) := by decide +kernel
theorem dX12_set_14 : decode cX12_set 14 = .ok (.iconst 2, 1) := by decide +kernel
theorem dX12_set_15 : decode cX12_set 15 = .ok (.if_icmp .ge 16, 3) := by decide +kernel
theorem dX12_set_18 : decode cX12_set 18 = .ok (.aload_n 0, 1) := by decide +kernel
theorem dX12_set_19 : decode cX12_set 19 = .ok (.getfield 7, 3) := by decide +kernel
theorem dX12_set_22 : decode cX12_set 22 = .ok (.iconst 3, 1) := by decide +kernel
theorem dX12_set_23 : decode cX12_set 23 = .ok (.iaload, 1) := by decide +kernel
theorem dX12_set_24 : decode cX12_set 24 = .ok (.ifCond .eq 7, 3) := by decide +kernel
theorem dX12_set_27 : decode cX12_set 27 = .ok (.iconst 2, 1) := by decide +kernel
theorem dX12_set_28 : decode cX12_set 28 = .ok (.goto 4, 3) := by decide +kernel
theorem dX12_set_31 : decode cX12_set 31 = .ok (.iconst 0, 1) := by decide +kernel
theorem dX12_set_32 : decode cX12_set 32 = .ok (.putfield 31, 3) := by decide +kernel
theorem dX12_set_35 : decode cX12_set 35 = .ok (.aload_n 0, 1) := by decide +kernel
theorem dX12_set_36 : decode cX12_set 36 = .ok (.getfield 31, 3) := by decide +kernel
theorem dX12_set_39 : decode cX12_set 39 = .ok (.ifCond .eq 7, 3) := by decide +kernel
theorem dX12_set_42 : decode cX12_set 42 = .ok (.iconst 0, 1) := by decide +kernel
theorem dX12_set_43 : decode cX12_set 43 = .ok (.goto 9, 3) := by decide +kernel
theorem dX12_set_46 : decode cX12_set 46 = .ok (.aload_n 0, 1) := by decide +kernel
theorem dX12_set_47 : decode cX12_set 47 = .ok (.iload_n 1, 1) := by decide +kernel
theorem dX12_set_48 : decode cX12_set 48 = .ok (.iload_n 2, 1) := by decide +kernel
theorem dX12_set_49 : decode cX12_set 49 = .ok (.invokevirtual 56, 3) := by decide +kernel
theorem dX12_set_52 : decode cX12_set 52 = .ok (.ireturn, 1) := by decide +kernel
set_option maxRecDepth 20000 in
theorem ggX12_isRule_X12_in : GoodIn wsX12_isRule wsX12_in := goodIn_r _ [4] (by decide +kernel) (by decide +kernel)
set_option maxRecDepth 20000 in
theorem gX12_isRule_X12_in : GoodIn wsX12_isRule (va_wsS RX12 41 yX12_in wsX12_in) := goodIn_app (goodIn_of _ (by decide +kernel)) ggX12_isRule_X12_in
theorem dX12_isRule_0 : decode cX12_isRule 0 = .ok (.iload_n 0, 1) := by decide +kernel
theorem dX12_isRule_1 : decode cX12_isRule 1 = .ok (.tableswitch 78 0 5 #[39, 39, 48, 56, 63, 70], 39) := by decide +kernel
theorem dX12_isRule_40 : decode cX12_isRule 40 = .ok (.iload_n 1, 1) := by decide +kernel
theorem dX12_isRule_41 : decode cX12_isRule 41 = .ok (.iconst 1, 1) := by decide +kernel
theorem dX12_isRule_42 : decode cX12_isRule 42 = .ok (.sipush 180, 3) := by decide +kernel
theorem dX12_isRule_45 : decode cX12_isRule 45 = .ok (.invokestatic 41, 3) := by decide +kernel
theorem dX12_isRule_48 : decode cX12_isRule 48 = .ok (.ireturn, 1) := by decide +kernel
theorem dX12_isRule_49 : decode cX12_isRule 49 = .ok (.iload_n 1, 1) := by decide +kernel
theorem dX12_isRule_50 : decode cX12_isRule 50 = .ok (.iconst 0, 1) := by decide +kernel
theorem dX12_isRule_51 : decode cX12_isRule 51 = .ok (.bipush 31, 2) := by decide +kernel
theorem dX12_isRule_53 : decode cX12_isRule 53 = .ok (.invokestatic 41, 3) := by decide +kernel
theorem dX12_isRule_56 : decode cX12_isRule 56 = .ok (.ireturn, 1) := by decide +kernel
theorem dX12_isRule_57 : decode cX12_isRule 57 = .ok (.iload_n 1, 1) := by decide +kernel
theorem dX12_isRule_58 : decode cX12_isRule 58 = .ok (.iconst 1, 1) := by decide +kernel
theorem dX12_isRule_59 : decode cX12_isRule 59 = .ok (.iconst 4, 1) := by decide +kernel
theorem dX12_isRule_60 : decode cX12_isRule 60 = .ok (.invokestatic 41, 3) := by decide +kernel
theorem dX12_isRule_63 : decode cX12_isRule 63 = .ok (.ireturn, 1) := by decide +kernel
theorem dX12_isRule_64 : decode cX12_isRule 64 = .ok (.iload_n 1, 1) := by decide +kernel
theorem dX12_isRule_65 : decode cX12_isRule 65 = .ok (.iconst 0, 1) := by decide +kernel
theorem dX12_isRule_66 : decode cX12_isRule 66 = .ok (.iconst 1, 1) := by decide +kernel
theorem dX12_isRule_67 : decode cX12_isRule 67 = .ok (.invokestatic 41, 3) := by decide +kernel
theorem dX12_isRule_70 : decode cX12_isRule 70 = .ok (.ireturn, 1) := by decide +kernel
theorem dX12_isRule_71 : decode cX12_isRule 71 = .ok (.iload_n 1, 1) := by decide +kernel
theorem dX12_isRule_72 : decode cX12_isRule 72 = .ok (.iconst 1, 1) := by decide +kernel
theorem dX12_isRule_73 : decode cX12_isRule 73 = .ok (.bipush 12, 2) := by decide +kernel
theorem dX12_isRule_75 : decode cX12_isRule 75 = .ok (.invokestatic 41, 3) := by decide +kernel
theorem dX12_isRule_78 : decode cX12_isRule 78 = .ok (.ireturn, 1) := by decide +kernel
theorem dX12_isRule_79 : decode cX12_isRule 79 = .ok (.iconst 0, 1) := by decide +kernel
theorem dX12_isRule_80 : decode cX12_isRule 80 = .ok (.ireturn, 1) := by decide +kernel
set_option maxRecDepth 20000 in
theorem ggX12_setRule_X12_isRound : GoodIn wsX12_setRule wsX12_isRound := goodIn_r _ [6, 7, 8, 5, 9] (by decide +kernel) (by decide +kernel)
set_option maxRecDepth 20000 in
theorem gX12_setRule_X12_isRound : GoodIn wsX12_setRule (va_wsS RX12 63 yX12_isRound wsX12_isRound) := goodIn_app (goodIn_of _ (by decide +kernel)) ggX12_setRule_X12_isRound
set_option maxRecDepth 20000 in
theorem ggX12_setRule_X12_isRule : GoodIn wsX12_setRule wsX12_isRule := goodIn_r _ [12, 7, 8, 5, 9] (by decide +kernel) (by decide +kernel)
set_option maxRecDepth 20000 in
theorem gX12_setRule_X12_isRule : GoodIn wsX12_setRule (va_wsS RX12 66 yX12_isRule wsX12_isRule) := goodIn_app (goodIn_of _ (by decide +kernel)) ggX12_setRule_X12_isRule
set_option maxRecDepth 20000 in
theorem ggX12_setRule_X12_put : GoodIn wsX12_setRule wsX12_put := goodIn_r _ [16, 1, 17, 18, 19, 5, 20, 21, 22, 23, 24, 25, 26, 27, 28, 29, 30, 31, 32, 33, 34] (by decide +kernel) (by decide +kernel)
set_option maxRecDepth 20000 in
theorem gX12_setRule_X12_put : GoodIn wsX12_setRule (wsV RX12 56 RX12 yX12_put wsX12_put) := goodIn_app (goodIn_of _ (by decide +kernel)) ggX12_setRule_X12_put
theorem dX12_setRule_0 : decode cX12_setRule 0 = .ok (.aload_n 0, 1) := by decide +kernel
theorem dX12_setRule_1 : decode cX12_setRule 1 = .ok (.iload_n 1, 1) := by decide +kernel
theorem dX12_setRule_2 : decode cX12_setRule 2 = .ok (.invokestatic 63, 3) := by decide +kernel
theorem dX12_setRule_5 : decode cX12_setRule 5 = .ok (.ifCond .ne 7, 3) := by decide +kernel
theorem dX12_setRule_8 : decode cX12_setRule 8 = .ok (.iconst 1, 1) := by decide +kernel
theorem dX12_setRule_9 : decode cX12_setRule 9 = .ok (.goto 29, 3) := by decide +kernel
theorem dX12_setRule_12 : decode cX12_setRule 12 = .ok (.iload_n 2, 1) := by decide +kernel
theorem dX12_setRule_13 : decode cX12_setRule 13 = .ok (.iload_n 3, 1) := by decide +kernel
theorem dX12_setRule_14 : decode cX12_setRule 14 = .ok (.invokestatic 66, 3) := by decide +kernel
theorem dX12_setRule_17 : decode cX12_setRule 17 = .ok (.ifCond .ne 7, 3) := by decide +kernel
theorem dX12_setRule_20 : decode cX12_setRule 20 = .ok (.iconst 2, 1) := by decide +kernel
theorem dX12_setRule_21 : decode cX12_setRule 21 = .ok (.goto 17, 3) := by decide +kernel
theorem dX12_setRule_24 : decode cX12_setRule 24 = .ok (.aload_n 0, 1) := by decide +kernel
theorem dX12_setRule_25 : decode cX12_setRule 25 = .ok (.getfield 7, 3) := by decide +kernel
theorem dX12_setRule_28 : decode cX12_setRule 28 = .ok (.iconst 3, 1) := by decide +kernel
theorem dX12_setRule_29 : decode cX12_setRule 29 = .ok (.iaload, 1) := by decide +kernel
theorem dX12_setRule_30 : decode cX12_setRule 30 = .ok (.ifCond .eq 7, 3) := by decide +kernel
theorem dX12_setRule_33 : decode cX12_setRule 33 = .ok (.iconst 3, 1) := by decide +kernel
theorem dX12_setRule_34 : decode cX12_setRule 34 = .ok (.goto 4, 3) := by decide +kernel
theorem dX12_setRule_37 : decode cX12_setRule 37 = .ok (.iconst 0, 1) := by decide +kernel
theorem dX12_setRule_38 : decode cX12_setRule 38 = .ok (.putfield 31, 3) := by decide +kernel
theorem dX12_setRule_41 : decode cX12_setRule 41 = .ok (.aload_n 0, 1) := by decide +kernel
theorem dX12_setRule_42 : decode cX12_setRule 42 = .ok (.getfield 31, 3) := by decide +kernel
theorem dX12_setRule_45 : decode cX12_setRule 45 = .ok (.ifCond .eq 7, 3) := by decide +kernel
theorem dX12_setRule_48 : decode cX12_setRule 48 = .ok (.iconst 0, 1) := by decide +kernel
theorem dX12_setRule_49 : decode cX12_setRule 49 = .ok (.goto 17, 3) := by decide +kernel
theorem dX12_setRule_52 : decode cX12_setRule 52 = .ok (.aload_n 0, 1) := by decide +kernel
theorem dX12_setRule_53 : decode cX12_setRule 53 = .ok (.bipush 102, 2) := by decide +kernel
theorem dX12_setRule_55 : decode cX12_setRule 55 = .ok (.bipush 6, 2) := by decide +kernel
theorem dX12_setRule_57 : decode cX12_setRule 57 = .ok (.iload_n 1, 1) := by decide +kernel
theorem dX12_setRule_58 : decode cX12_setRule 58 = .ok (.imul, 1) := by decide +kernel
theorem dX12_setRule_59 : decode cX12_setRule 59 = .ok (.iadd, 1) := by decide +kernel
theorem dX12_setRule_60 : decode cX12_setRule 60 = .ok (.iload_n 2, 1) := by decide +kernel
theorem dX12_setRule_61 : decode cX12_setRule 61 = .ok (.iadd, 1) := by decide +kernel
theorem dX12_setRule_62 : decode cX12_setRule 62 = .ok (.iload_n 3, 1) := by decide +kernel
theorem dX12_setRule_63 : decode cX12_setRule 63 = .ok (.invokevirtual 56, 3) := by decide +kernel
theorem dX12_setRule_66 : decode cX12_setRule 66 = .ok (.ireturn, 1) := by decide +kernel
set_option maxRecDepth 20000 in
theorem ggX12_rule_X12_isRound : GoodIn wsX12_rule wsX12_isRound := goodIn_r _ [6, 7, 8, 5, 9] (by decide +kernel) (by decide +kernel)
set_option maxRecDepth 20000 in
theorem gX12_rule_X12_isRound : GoodIn wsX12_rule (va_wsS RX12 63 yX12_isRound wsX12_isRound) := goodIn_app (goodIn_of _ (by decide +kernel)) ggX12_rule_X12_isRound
set_option maxRecDepth 20000 in
theorem ggX12_rule_X12_in : GoodIn wsX12_rule wsX12_in := goodIn_r _ [9] (by decide +kernel) (by decide +kernel)
set_option maxRecDepth 20000 in
theorem gX12_rule_X12_in : GoodIn wsX12_rule (va_wsS RX12 41 yX12_in wsX12_in) := goodIn_app (goodIn_of _ (by decide +kernel)) ggX12_rule_X12_in
theorem dX12_rule_0 : decode cX12_rule 0 = .ok (.aload_n 0, 1) := by decide +kernel
theorem dX12_rule_1 : decode cX12_rule 1 = .ok (.iload_n 1, 1) := by decide +kernel
theorem dX12_rule_2 : decode cX12_rule 2 = .ok (.invokestatic 63, 3) := by decide +kernel
theorem dX12_rule_5 : decode cX12_rule 5 = .ok (.ifCond .ne 7, 3) := by decide +kernel
theorem dX12_rule_8 : decode cX12_rule 8 = .ok (.iconst 1, 1) := by decide +kernel
theorem dX12_rule_9 : decode cX12_rule 9 = .ok (.goto 17, 3) := by decide +kernel
theorem dX12_rule_12 : decode cX12_rule 12 = .ok (.iload_n 2, 1) := by decide +kernel
theorem dX12_rule_13 : decode cX12_rule 13 = .ok (.iconst 0, 1) := by decide +kernel
theorem dX12_rule_14 : decode cX12_rule 14 = .ok (.iconst 5, 1) := by decide +kernel
theorem dX12_rule_15 : decode cX12_rule 15 = .ok (.invokestatic 41, 3) := by decide +kernel
theorem dX12_rule_18 : decode cX12_rule 18 = .ok (.ifCond .eq 7, 3) := by decide +kernel
theorem dX12_rule_21 : decode cX12_rule 21 = .ok (.iconst 0, 1) := by decide +kernel
theorem dX12_rule_22 : decode cX12_rule 22 = .ok (.goto 4, 3) := by decide +kernel
theorem dX12_rule_25 : decode cX12_rule 25 = .ok (.iconst 2, 1) := by decide +kernel
theorem dX12_rule_26 : decode cX12_rule 26 = .ok (.putfield 31, 3) := by decide +kernel
theorem dX12_rule_29 : decode cX12_rule 29 = .ok (.aload_n 0, 1) := by decide +kernel
theorem dX12_rule_30 : decode cX12_rule 30 = .ok (.getfield 31, 3) := by decide +kernel
theorem dX12_rule_33 : decode cX12_rule 33 = .ok (.ifCond .eq 7, 3) := by decide +kernel
theorem dX12_rule_36 : decode cX12_rule 36 = .ok (.iconst 0, 1) := by decide +kernel
theorem dX12_rule_37 : decode cX12_rule 37 = .ok (.goto 17, 3) := by decide +kernel
theorem dX12_rule_40 : decode cX12_rule 40 = .ok (.aload_n 0, 1) := by decide +kernel
theorem dX12_rule_41 : decode cX12_rule 41 = .ok (.getfield 7, 3) := by decide +kernel
theorem dX12_rule_44 : decode cX12_rule 44 = .ok (.bipush 102, 2) := by decide +kernel
theorem dX12_rule_46 : decode cX12_rule 46 = .ok (.bipush 6, 2) := by decide +kernel
theorem dX12_rule_48 : decode cX12_rule 48 = .ok (.iload_n 1, 1) := by decide +kernel
theorem dX12_rule_49 : decode cX12_rule 49 = .ok (.imul, 1) := by decide +kernel
theorem dX12_rule_50 : decode cX12_rule 50 = .ok (.iadd, 1) := by decide +kernel
theorem dX12_rule_51 : decode cX12_rule 51 = .ok (.iload_n 2, 1) := by decide +kernel
theorem dX12_rule_52 : decode cX12_rule 52 = .ok (.iadd, 1) := by decide +kernel
theorem dX12_rule_53 : decode cX12_rule 53 = .ok (.iaload, 1) := by decide +kernel
theorem dX12_rule_54 : decode cX12_rule 54 = .ok (.ireturn, 1) := by decide +kernel
theorem dX12_programAt_0 : decode cX12_programAt 0 = .ok (.sipush 138, 3) := by decide +kernel
theorem dX12_programAt_3 : decode cX12_programAt 3 = .ok (.iconst 5, 1) := by decide +kernel
theorem dX12_programAt_4 : decode cX12_programAt 4 = .ok (.iconst 4, 1) := by decide +kernel
theorem dX12_programAt_5 : decode cX12_programAt 5 = .ok (.iload_n 0, 1) := by decide +kernel
theorem dX12_programAt_6 : decode cX12_programAt 6 = .ok (.imul, 1) := by decide +kernel
theorem dX12_programAt_7 : decode cX12_programAt 7 = .ok (.iload_n 1, 1) := by decide +kernel
theorem dX12_programAt_8 : decode cX12_programAt 8 = .ok (.iadd, 1) := by decide +kernel
theorem dX12_programAt_9 : decode cX12_programAt 9 = .ok (.imul, 1) := by decide +kernel
theorem dX12_programAt_10 : decode cX12_programAt 10 = .ok (.iadd, 1) := by decide +kernel
theorem dX12_programAt_11 : decode cX12_programAt 11 = .ok (.ireturn, 1) := by decide +kernel
set_option maxRecDepth 20000 in
theorem ggX12_setProgram_X12_isEntrant : GoodIn wsX12_setProgram wsX12_isEntrant := goodIn_r _ [9, 2, 10, 11, 8, 12, 40, 41, 42, 43, 44, 45, 46, 47, 48, 49, 50, 51] (by decide +kernel) (by decide +kernel)
set_option maxRecDepth 20000 in
theorem gX12_setProgram_X12_isEntrant : GoodIn wsX12_setProgram (wsV RX12 53 RX12 yX12_isEntrant wsX12_isEntrant) := goodIn_app (goodIn_of _ (by decide +kernel)) ggX12_setProgram_X12_isEntrant
set_option maxRecDepth 20000 in
theorem ggX12_setProgram_X12_isRound : GoodIn wsX12_setProgram wsX12_isRound := goodIn_r _ [15, 10, 11, 8, 12] (by decide +kernel) (by decide +kernel)
set_option maxRecDepth 20000 in
theorem gX12_setProgram_X12_isRound : GoodIn wsX12_setProgram (va_wsS RX12 63 yX12_isRound wsX12_isRound) := goodIn_app (goodIn_of _ (by decide +kernel)) ggX12_setProgram_X12_isRound
set_option maxRecDepth 20000 in
theorem ggX12_setProgram_X12_faultOf : GoodIn wsX12_setProgram wsX12_faultOf := goodIn_r _ [19, 20, 3, 4, 21, 22, 23, 24, 8, 25, 26, 10, 11, 12, 27, 28, 29, 30, 2, 40, 41, 42, 43, 44, 45, 46, 47, 48, 49, 50, 51] (by decide +kernel) (by decide +kernel)
set_option maxRecDepth 20000 in
theorem gX12_setProgram_X12_faultOf : GoodIn wsX12_setProgram (wsV RX12 69 RX12 yX12_faultOf wsX12_faultOf) := goodIn_app (goodIn_of _ (by decide +kernel)) ggX12_setProgram_X12_faultOf
set_option maxRecDepth 20000 in
theorem ggX12_setProgram_X12_keep : GoodIn wsX12_setProgram wsX12_keep := goodIn_r _ [34, 35, 36, 2, 40, 41, 42, 43, 44, 45, 46, 47, 48, 49, 50, 51] (by decide +kernel) (by decide +kernel)
set_option maxRecDepth 20000 in
theorem gX12_setProgram_X12_keep : GoodIn wsX12_setProgram (wsV RX12 38 RX12 yX12_keep wsX12_keep) := goodIn_app (goodIn_of _ (by decide +kernel)) ggX12_setProgram_X12_keep
set_option maxRecDepth 20000 in
theorem ggX12_setProgram_X12_programAt : GoodIn wsX12_setProgram wsX12_programAt := goodIn_r _ [39] (by decide +kernel) (by decide +kernel)
set_option maxRecDepth 20000 in
theorem gX12_setProgram_X12_programAt : GoodIn wsX12_setProgram (va_wsS RX12 73 yX12_programAt wsX12_programAt) := goodIn_app (goodIn_of _ (by decide +kernel)) ggX12_setProgram_X12_programAt
theorem dX12_setProgram_0 : decode cX12_setProgram 0 = .ok (.aload_n 0, 1) := by decide +kernel
theorem dX12_setProgram_1 : decode cX12_setProgram 1 = .ok (.aload_n 0, 1) := by decide +kernel
theorem dX12_setProgram_2 : decode cX12_setProgram 2 = .ok (.iload_n 1, 1) := by decide +kernel
theorem dX12_setProgram_3 : decode cX12_setProgram 3 = .ok (.invokevirtual 53, 3) := by decide +kernel
theorem dX12_setProgram_6 : decode cX12_setProgram 6 = .ok (.ifCond .eq 10, 3) := by decide +kernel
theorem dX12_setProgram_9 : decode cX12_setProgram 9 = .ok (.iload_n 2, 1) := by decide +kernel
theorem dX12_setProgram_10 : decode cX12_setProgram 10 = .ok (.invokestatic 63, 3) := by decide +kernel
theorem dX12_setProgram_13 : decode cX12_setProgram 13 = .ok (.ifCond .ne 7, 3) := by decide +kernel
theorem dX12_setProgram_16 : decode cX12_setProgram 16 = .ok (.iconst 1, 1) := by decide +kernel
theorem dX12_setProgram_17 : decode cX12_setProgram 17 = .ok (.goto 16, 3) := by decide +kernel
theorem dX12_setProgram_20 : decode cX12_setProgram 20 = .ok (.aload_n 0, 1) := by decide +kernel
theorem dX12_setProgram_21 : decode cX12_setProgram 21 = .ok (.invokevirtual 69, 3) := by decide +kernel
theorem dX12_setProgram_24 : decode cX12_setProgram 24 = .ok (.iconst (-1), 1) := by decide +kernel
theorem dX12_setProgram_25 : decode cX12_setProgram 25 = .ok (.if_icmp .ne 7, 3) := by decide +kernel
theorem dX12_setProgram_28 : decode cX12_setProgram 28 = .ok (.iconst 0, 1) := by decide +kernel
theorem dX12_setProgram_29 : decode cX12_setProgram 29 = .ok (.goto 4, 3) := by decide +kernel
theorem dX12_setProgram_32 : decode cX12_setProgram 32 = .ok (.iconst 2, 1) := by decide +kernel
theorem dX12_setProgram_33 : decode cX12_setProgram 33 = .ok (.putfield 31, 3) := by decide +kernel
theorem dX12_setProgram_36 : decode cX12_setProgram 36 = .ok (.aload_n 0, 1) := by decide +kernel
theorem dX12_setProgram_37 : decode cX12_setProgram 37 = .ok (.getfield 31, 3) := by decide +kernel
theorem dX12_setProgram_40 : decode cX12_setProgram 40 = .ok (.ifCond .eq 5, 3) := by decide +kernel
theorem dX12_setProgram_43 : decode cX12_setProgram 43 = .ok (.iconst 0, 1) := by decide +kernel
theorem dX12_setProgram_44 : decode cX12_setProgram 44 = .ok (.ireturn, 1) := by decide +kernel
theorem dX12_setProgram_45 : decode cX12_setProgram 45 = .ok (.aload_n 0, 1) := by decide +kernel
theorem dX12_setProgram_46 : decode cX12_setProgram 46 = .ok (.invokevirtual 38, 3) := by decide +kernel
theorem dX12_setProgram_49 : decode cX12_setProgram 49 = .ok (.iload_n 1, 1) := by decide +kernel
theorem dX12_setProgram_50 : decode cX12_setProgram 50 = .ok (.iload_n 2, 1) := by decide +kernel
theorem dX12_setProgram_51 : decode cX12_setProgram 51 = .ok (.invokestatic 73, 3) := by decide +kernel
theorem dX12_setProgram_54 : decode cX12_setProgram 54 = .ok (.istore_n 3, 1) := by decide +kernel
theorem dX12_setProgram_55 : decode cX12_setProgram 55 = .ok (.aload_n 0, 1) := by decide +kernel
theorem dX12_setProgram_56 : decode cX12_setProgram 56 = .ok (.getfield 7, 3) := by decide +kernel
theorem dX12_setProgram_59 : decode cX12_setProgram 59 = .ok (.iload_n 3, 1) := by decide +kernel
theorem dX12_setProgram_60 : decode cX12_setProgram 60 = .ok (.aload_n 0, 1) := by decide +kernel
theorem dX12_setProgram_61 : decode cX12_setProgram 61 = .ok (.getfield 76, 3) := by decide +kernel
theorem dX12_setProgram_64 : decode cX12_setProgram 64 = .ok (.iastore, 1) := by decide +kernel
theorem dX12_setProgram_65 : decode cX12_setProgram 65 = .ok (.iconst 0, 1) := by decide +kernel
theorem dX12_setProgram_66 : decode cX12_setProgram 66 = .ok (.istore 4, 2) := by decide +kernel
theorem dX12_setProgram_68 : decode cX12_setProgram 68 = .ok (.iload 4, 2) := by decide +kernel
theorem dX12_setProgram_70 : decode cX12_setProgram 70 = .ok (.aload_n 0, 1) := by decide +kernel
theorem dX12_setProgram_71 : decode cX12_setProgram 71 = .ok (.getfield 76, 3) := by decide +kernel
theorem dX12_setProgram_74 : decode cX12_setProgram 74 = .ok (.if_icmp .ge 27, 3) := by decide +kernel
theorem dX12_setProgram_77 : decode cX12_setProgram 77 = .ok (.aload_n 0, 1) := by decide +kernel
theorem dX12_setProgram_78 : decode cX12_setProgram 78 = .ok (.getfield 7, 3) := by decide +kernel
theorem dX12_setProgram_81 : decode cX12_setProgram 81 = .ok (.iload_n 3, 1) := by decide +kernel
theorem dX12_setProgram_82 : decode cX12_setProgram 82 = .ok (.iconst 1, 1) := by decide +kernel
theorem dX12_setProgram_83 : decode cX12_setProgram 83 = .ok (.iadd, 1) := by decide +kernel
theorem dX12_setProgram_84 : decode cX12_setProgram 84 = .ok (.iload 4, 2) := by decide +kernel
theorem dX12_setProgram_86 : decode cX12_setProgram 86 = .ok (.iadd, 1) := by decide +kernel
theorem dX12_setProgram_87 : decode cX12_setProgram 87 = .ok (.aload_n 0, 1) := by decide +kernel
theorem dX12_setProgram_88 : decode cX12_setProgram 88 = .ok (.getfield 25, 3) := by decide +kernel
theorem dX12_setProgram_91 : decode cX12_setProgram 91 = .ok (.iload 4, 2) := by decide +kernel
theorem dX12_setProgram_93 : decode cX12_setProgram 93 = .ok (.iaload, 1) := by decide +kernel
theorem dX12_setProgram_94 : decode cX12_setProgram 94 = .ok (.iastore, 1) := by decide +kernel
theorem dX12_setProgram_95 : decode cX12_setProgram 95 = .ok (.iinc 4 1, 3) := by decide +kernel
theorem dX12_setProgram_98 : decode cX12_setProgram 98 = .ok (.goto (-30), 3) := by decide +kernel
theorem dX12_setProgram_101 : decode cX12_setProgram 101 = .ok (.aload_n 0, 1) := by decide +kernel
theorem dX12_setProgram_102 : decode cX12_setProgram 102 = .ok (.getfield 76, 3) := by decide +kernel
theorem dX12_setProgram_105 : decode cX12_setProgram 105 = .ok (.ireturn, 1) := by decide +kernel
set_option maxRecDepth 20000 in
theorem ggX12_clearProgram_X12_isEntrant : GoodIn wsX12_clearProgram wsX12_isEntrant := goodIn_r _ [6, 7, 8, 9, 5, 10, 27, 28, 29, 30, 31, 32, 33, 34, 35, 36, 37, 38] (by decide +kernel) (by decide +kernel)
set_option maxRecDepth 20000 in
theorem gX12_clearProgram_X12_isEntrant : GoodIn wsX12_clearProgram (wsV RX12 53 RX12 yX12_isEntrant wsX12_isEntrant) := goodIn_app (goodIn_of _ (by decide +kernel)) ggX12_clearProgram_X12_isEntrant
set_option maxRecDepth 20000 in
theorem ggX12_clearProgram_X12_isRound : GoodIn wsX12_clearProgram wsX12_isRound := goodIn_r _ [13, 8, 9, 5, 10] (by decide +kernel) (by decide +kernel)
set_option maxRecDepth 20000 in
theorem gX12_clearProgram_X12_isRound : GoodIn wsX12_clearProgram (va_wsS RX12 63 yX12_isRound wsX12_isRound) := goodIn_app (goodIn_of _ (by decide +kernel)) ggX12_clearProgram_X12_isRound
set_option maxRecDepth 20000 in
theorem ggX12_clearProgram_X12_programAt : GoodIn wsX12_clearProgram wsX12_programAt := goodIn_r _ [16] (by decide +kernel) (by decide +kernel)
set_option maxRecDepth 20000 in
theorem gX12_clearProgram_X12_programAt : GoodIn wsX12_clearProgram (va_wsS RX12 73 yX12_programAt wsX12_programAt) := goodIn_app (goodIn_of _ (by decide +kernel)) ggX12_clearProgram_X12_programAt
set_option maxRecDepth 20000 in
theorem ggX12_clearProgram_X12_put : GoodIn wsX12_clearProgram wsX12_put := goodIn_r _ [20, 7, 21, 22, 23, 5, 24, 25, 26, 27, 28, 29, 30, 31, 32, 33, 34, 35, 36, 37, 38] (by decide +kernel) (by decide +kernel)
set_option maxRecDepth 20000 in
theorem gX12_clearProgram_X12_put : GoodIn wsX12_clearProgram (wsV RX12 56 RX12 yX12_put wsX12_put) := goodIn_app (goodIn_of _ (by decide +kernel)) ggX12_clearProgram_X12_put
theorem dX12_clearProgram_0 : decode cX12_clearProgram 0 = .ok (.aload_n 0, 1) := by decide +kernel
theorem dX12_clearProgram_1 : decode cX12_clearProgram 1 = .ok (.aload_n 0, 1) := by decide +kernel
theorem dX12_clearProgram_2 : decode cX12_clearProgram 2 = .ok (.iload_n 1, 1) := by decide +kernel
theorem dX12_clearProgram_3 : decode cX12_clearProgram 3 = .ok (.invokevirtual 53, 3) := by decide +kernel
theorem dX12_clearProgram_6 : decode cX12_clearProgram 6 = .ok (.ifCond .eq 14, 3) := by decide +kernel
theorem dX12_clearProgram_9 : decode cX12_clearProgram 9 = .ok (.iload_n 2, 1) := by decide +kernel
theorem dX12_clearProgram_10 : decode cX12_clearProgram 10 = .ok (.invokestatic 63, 3) := by decide +kernel
theorem dX12_clearProgram_13 : decode cX12_clearProgram 13 = .ok (.ifCond .eq 7, 3) := by decide +kernel
theorem dX12_clearProgram_16 : decode cX12_clearProgram 16 = .ok (.iconst 0, 1) := by decide +kernel
theorem dX12_clearProgram_17 : decode cX12_clearProgram 17 = .ok (.goto 4, 3) := by decide +kernel
theorem dX12_clearProgram_20 : decode cX12_clearProgram 20 = .ok (.iconst 1, 1) := by decide +kernel
theorem dX12_clearProgram_21 : decode cX12_clearProgram 21 = .ok (.putfield 31, 3) := by decide +kernel
theorem dX12_clearProgram_24 : decode cX12_clearProgram 24 = .ok (.aload_n 0, 1) := by decide +kernel
theorem dX12_clearProgram_25 : decode cX12_clearProgram 25 = .ok (.getfield 31, 3) := by decide +kernel
theorem dX12_clearProgram_28 : decode cX12_clearProgram 28 = .ok (.ifCond .eq 7, 3) := by decide +kernel
theorem dX12_clearProgram_31 : decode cX12_clearProgram 31 = .ok (.iconst 0, 1) := by decide +kernel
theorem dX12_clearProgram_32 : decode cX12_clearProgram 32 = .ok (.goto 13, 3) := by decide +kernel
theorem dX12_clearProgram_35 : decode cX12_clearProgram 35 = .ok (.aload_n 0, 1) := by decide +kernel
theorem dX12_clearProgram_36 : decode cX12_clearProgram 36 = .ok (.iload_n 1, 1) := by decide +kernel
theorem dX12_clearProgram_37 : decode cX12_clearProgram 37 = .ok (.iload_n 2, 1) := by decide +kernel
theorem dX12_clearProgram_38 : decode cX12_clearProgram 38 = .ok (.invokestatic 73, 3) := by decide +kernel
theorem dX12_clearProgram_41 : decode cX12_clearProgram 41 = .ok (.iconst 0, 1) := by decide +kernel
theorem dX12_clearProgram_42 : decode cX12_clearProgram 42 = .ok (.invokevirtual 56, 3) := by decide +kernel
theorem dX12_clearProgram_45 : decode cX12_clearProgram 45 = .ok (.ireturn, 1) := by decide +kernel
set_option maxRecDepth 20000 in
theorem ggX12_workAt_X12_programAt : GoodIn wsX12_workAt wsX12_programAt := goodIn_r _ [5] (by decide +kernel) (by decide +kernel)
set_option maxRecDepth 20000 in
theorem gX12_workAt_X12_programAt : GoodIn wsX12_workAt (va_wsS RX12 73 yX12_programAt wsX12_programAt) := goodIn_app (goodIn_of _ (by decide +kernel)) ggX12_workAt_X12_programAt
set_option maxRecDepth 20000 in
theorem ggX12_workAt_X12_in : GoodIn wsX12_workAt wsX12_in := goodIn_r _ [8] (by decide +kernel) (by decide +kernel)
set_option maxRecDepth 20000 in
theorem gX12_workAt_X12_in : GoodIn wsX12_workAt (va_wsS RX12 41 yX12_in wsX12_in) := goodIn_app (goodIn_of _ (by decide +kernel)) ggX12_workAt_X12_in
theorem dX12_workAt_0 : decode cX12_workAt 0 = .ok (.iload_n 1, 1) := by decide +kernel
theorem dX12_workAt_1 : decode cX12_workAt 1 = .ok (.iload_n 2, 1) := by decide +kernel
theorem dX12_workAt_2 : decode cX12_workAt 2 = .ok (.invokestatic 73, 3) := by decide +kernel
theorem dX12_workAt_5 : decode cX12_workAt 5 = .ok (.istore 4, 2) := by decide +kernel
theorem dX12_workAt_7 : decode cX12_workAt 7 = .ok (.iload_n 3, 1) := by decide +kernel
theorem dX12_workAt_8 : decode cX12_workAt 8 = .ok (.iconst 0, 1) := by decide +kernel
theorem dX12_workAt_9 : decode cX12_workAt 9 = .ok (.aload_n 0, 1) := by decide +kernel
theorem dX12_workAt_10 : decode cX12_workAt 10 = .ok (.getfield 7, 3) := by decide +kernel
theorem dX12_workAt_13 : decode cX12_workAt 13 = .ok (.iload 4, 2) := by decide +kernel
theorem dX12_workAt_15 : decode cX12_workAt 15 = .ok (.iaload, 1) := by decide +kernel
theorem dX12_workAt_16 : decode cX12_workAt 16 = .ok (.iconst 1, 1) := by decide +kernel
theorem dX12_workAt_17 : decode cX12_workAt 17 = .ok (.isub, 1) := by decide +kernel
theorem dX12_workAt_18 : decode cX12_workAt 18 = .ok (.invokestatic 41, 3) := by decide +kernel
theorem dX12_workAt_21 : decode cX12_workAt 21 = .ok (.ifCond .eq 17, 3) := by decide +kernel
theorem dX12_workAt_24 : decode cX12_workAt 24 = .ok (.aload_n 0, 1) := by decide +kernel
theorem dX12_workAt_25 : decode cX12_workAt 25 = .ok (.getfield 7, 3) := by decide +kernel
theorem dX12_workAt_28 : decode cX12_workAt 28 = .ok (.iload 4, 2) := by decide +kernel
theorem dX12_workAt_30 : decode cX12_workAt 30 = .ok (.iconst 1, 1) := by decide +kernel
theorem dX12_workAt_31 : decode cX12_workAt 31 = .ok (.iadd, 1) := by decide +kernel
theorem dX12_workAt_32 : decode cX12_workAt 32 = .ok (.iload_n 3, 1) := by decide +kernel
theorem dX12_workAt_33 : decode cX12_workAt 33 = .ok (.iadd, 1) := by decide +kernel
theorem dX12_workAt_34 : decode cX12_workAt 34 = .ok (.iaload, 1) := by decide +kernel
theorem dX12_workAt_35 : decode cX12_workAt 35 = .ok (.goto 4, 3) := by decide +kernel
theorem dX12_workAt_38 : decode cX12_workAt 38 = .ok (.iconst (-1), 1) := by decide +kernel
theorem dX12_workAt_39 : decode cX12_workAt 39 = .ok (.ireturn, 1) := by decide +kernel
set_option maxRecDepth 20000 in
theorem ggX12_program_X12_isEntrant : GoodIn wsX12_program wsX12_isEntrant := goodIn_r _ [6, 7, 8, 9, 5, 10, 21, 22, 23, 24, 25, 26, 27, 28, 29, 30, 31, 32] (by decide +kernel) (by decide +kernel)
set_option maxRecDepth 20000 in
theorem gX12_program_X12_isEntrant : GoodIn wsX12_program (wsV RX12 53 RX12 yX12_isEntrant wsX12_isEntrant) := goodIn_app (goodIn_of _ (by decide +kernel)) ggX12_program_X12_isEntrant
set_option maxRecDepth 20000 in
theorem ggX12_program_X12_isRound : GoodIn wsX12_program wsX12_isRound := goodIn_r _ [13, 8, 9, 5, 10] (by decide +kernel) (by decide +kernel)
set_option maxRecDepth 20000 in
theorem gX12_program_X12_isRound : GoodIn wsX12_program (va_wsS RX12 63 yX12_isRound wsX12_isRound) := goodIn_app (goodIn_of _ (by decide +kernel)) ggX12_program_X12_isRound
set_option maxRecDepth 20000 in
theorem ggX12_program_X12_workAt : GoodIn wsX12_program wsX12_workAt := goodIn_r _ [17, 7, 18, 19, 5, 20, 8, 9, 10, 21, 22, 23, 24, 25, 26, 27, 28, 29, 30, 31, 32] (by decide +kernel) (by decide +kernel)
set_option maxRecDepth 20000 in
theorem gX12_program_X12_workAt : GoodIn wsX12_program (wsV RX12 79 RX12 yX12_workAt wsX12_workAt) := goodIn_app (goodIn_of _ (by decide +kernel)) ggX12_program_X12_workAt
theorem dX12_program_0 : decode cX12_program 0 = .ok (.aload_n 0, 1) := by decide +kernel
theorem dX12_program_1 : decode cX12_program 1 = .ok (.aload_n 0, 1) := by decide +kernel
theorem dX12_program_2 : decode cX12_program 2 = .ok (.iload_n 1, 1) := by decide +kernel
theorem dX12_program_3 : decode cX12_program 3 = .ok (.invokevirtual 53, 3) := by decide +kernel
theorem dX12_program_6 : decode cX12_program 6 = .ok (.ifCond .eq 14, 3) := by decide +kernel
theorem dX12_program_9 : decode cX12_program 9 = .ok (.iload_n 2, 1) := by decide +kernel
theorem dX12_program_10 : decode cX12_program 10 = .ok (.invokestatic 63, 3) := by decide +kernel
theorem dX12_program_13 : decode cX12_program 13 = .ok (.ifCond .eq 7, 3) := by decide +kernel
theorem dX12_program_16 : decode cX12_program 16 = .ok (.iconst 0, 1) := by decide +kernel
theorem dX12_program_17 : decode cX12_program 17 = .ok (.goto 4, 3) := by decide +kernel
theorem dX12_program_20 : decode cX12_program 20 = .ok (.iconst 1, 1) := by decide +kernel
theorem dX12_program_21 : decode cX12_program 21 = .ok (.putfield 31, 3) := by decide +kernel
theorem dX12_program_24 : decode cX12_program 24 = .ok (.aload_n 0, 1) := by decide +kernel
theorem dX12_program_25 : decode cX12_program 25 = .ok (.getfield 31, 3) := by decide +kernel
theorem dX12_program_28 : decode cX12_program 28 = .ok (.ifCond .eq 7, 3) := by decide +kernel
theorem dX12_program_31 : decode cX12_program 31 = .ok (.iconst 0, 1) := by decide +kernel
theorem dX12_program_32 : decode cX12_program 32 = .ok (.goto 10, 3) := by decide +kernel
theorem dX12_program_35 : decode cX12_program 35 = .ok (.aload_n 0, 1) := by decide +kernel
theorem dX12_program_36 : decode cX12_program 36 = .ok (.iload_n 1, 1) := by decide +kernel
theorem dX12_program_37 : decode cX12_program 37 = .ok (.iload_n 2, 1) := by decide +kernel
theorem dX12_program_38 : decode cX12_program 38 = .ok (.iload_n 3, 1) := by decide +kernel
theorem dX12_program_39 : decode cX12_program 39 = .ok (.invokevirtual 79, 3) := by decide +kernel
theorem dX12_program_42 : decode cX12_program 42 = .ok (.ireturn, 1) := by decide +kernel
set_option maxRecDepth 20000 in
theorem ggX12_wasPlayed_X12_workAt : GoodIn wsX12_wasPlayed wsX12_workAt := goodIn_r _ [5, 6, 7, 8, 4, 9, 10, 11, 12, 13, 14, 15, 16, 17, 18, 19, 20, 21, 22, 23, 24] (by decide +kernel) (by decide +kernel)
set_option maxRecDepth 20000 in
theorem gX12_wasPlayed_X12_workAt : GoodIn wsX12_wasPlayed (wsV RX12 79 RX12 yX12_workAt wsX12_workAt) := goodIn_app (goodIn_of _ (by decide +kernel)) ggX12_wasPlayed_X12_workAt
theorem dX12_wasPlayed_0 : decode cX12_wasPlayed 0 = .ok (.iconst 0, 1) := by decide +kernel
theorem dX12_wasPlayed_1 : decode cX12_wasPlayed 1 = .ok (.istore 4, 2) := by decide +kernel
theorem dX12_wasPlayed_3 : decode cX12_wasPlayed 3 = .ok (.iconst 0, 1) := by decide +kernel
theorem dX12_wasPlayed_4 : decode cX12_wasPlayed 4 = .ok (.istore 5, 2) := by decide +kernel
theorem dX12_wasPlayed_6 : decode cX12_wasPlayed 6 = .ok (.iload 5, 2) := by decide +kernel
theorem dX12_wasPlayed_8 : decode cX12_wasPlayed 8 = .ok (.iconst 4, 1) := by decide +kernel
theorem dX12_wasPlayed_9 : decode cX12_wasPlayed 9 = .ok (.iload_n 2, 1) := by decide +kernel
theorem dX12_wasPlayed_10 : decode cX12_wasPlayed 10 = .ok (.imul, 1) := by decide +kernel
theorem dX12_wasPlayed_11 : decode cX12_wasPlayed 11 = .ok (.if_icmp .ge 38, 3) := by decide +kernel
theorem dX12_wasPlayed_14 : decode cX12_wasPlayed 14 = .ok (.iload 4, 2) := by decide +kernel
theorem dX12_wasPlayed_16 : decode cX12_wasPlayed 16 = .ok (.ifCond .ne 20, 3) := by decide +kernel
theorem dX12_wasPlayed_19 : decode cX12_wasPlayed 19 = .ok (.aload_n 0, 1) := by decide +kernel
theorem dX12_wasPlayed_20 : decode cX12_wasPlayed 20 = .ok (.iload_n 1, 1) := by decide +kernel
theorem dX12_wasPlayed_21 : decode cX12_wasPlayed 21 = .ok (.iload 5, 2) := by decide +kernel
theorem dX12_wasPlayed_23 : decode cX12_wasPlayed 23 = .ok (.iconst 4, 1) := by decide +kernel
theorem dX12_wasPlayed_24 : decode cX12_wasPlayed 24 = .ok (.idiv, 1) := by decide +kernel
theorem dX12_wasPlayed_25 : decode cX12_wasPlayed 25 = .ok (.iload 5, 2) := by decide +kernel
theorem dX12_wasPlayed_27 : decode cX12_wasPlayed 27 = .ok (.iconst 4, 1) := by decide +kernel
theorem dX12_wasPlayed_28 : decode cX12_wasPlayed 28 = .ok (.irem, 1) := by decide +kernel
theorem dX12_wasPlayed_29 : decode cX12_wasPlayed 29 = .ok (.invokevirtual 79, 3) := by decide +kernel
theorem dX12_wasPlayed_32 : decode cX12_wasPlayed 32 = .ok (.iload_n 3, 1) := by decide +kernel
theorem dX12_wasPlayed_33 : decode cX12_wasPlayed 33 = .ok (.if_icmp .ne 7, 3) := by decide +kernel
theorem dX12_wasPlayed_36 : decode cX12_wasPlayed 36 = .ok (.iconst 1, 1) := by decide +kernel
theorem dX12_wasPlayed_37 : decode cX12_wasPlayed 37 = .ok (.goto 4, 3) := by decide +kernel
theorem dX12_wasPlayed_40 : decode cX12_wasPlayed 40 = .ok (.iconst 0, 1) := by decide +kernel
theorem dX12_wasPlayed_41 : decode cX12_wasPlayed 41 = .ok (.istore 4, 2) := by decide +kernel
theorem dX12_wasPlayed_43 : decode cX12_wasPlayed 43 = .ok (.iinc 5 1, 3) := by decide +kernel
theorem dX12_wasPlayed_46 : decode cX12_wasPlayed 46 = .ok (.goto (-40), 3) := by decide +kernel
theorem dX12_wasPlayed_49 : decode cX12_wasPlayed 49 = .ok (.iload 4, 2) := by decide +kernel
theorem dX12_wasPlayed_51 : decode cX12_wasPlayed 51 = .ok (.ireturn, 1) := by decide +kernel
set_option maxRecDepth 20000 in
theorem ggX12_flawOf_X12_programAt : GoodIn wsX12_flawOf wsX12_programAt := goodIn_r _ [5] (by decide +kernel) (by decide +kernel)
set_option maxRecDepth 20000 in
theorem gX12_flawOf_X12_programAt : GoodIn wsX12_flawOf (va_wsS RX12 73 yX12_programAt wsX12_programAt) := goodIn_app (goodIn_of _ (by decide +kernel)) ggX12_flawOf_X12_programAt
set_option maxRecDepth 20000 in
theorem ggX12_flawOf_X12_workAt : GoodIn wsX12_flawOf wsX12_workAt := goodIn_r _ [9, 1, 2, 3, 4, 5, 10, 11, 12, 17, 18, 19, 20, 21, 22, 23, 24, 25, 26, 27, 28] (by decide +kernel) (by decide +kernel)
set_option maxRecDepth 20000 in
theorem gX12_flawOf_X12_workAt : GoodIn wsX12_flawOf (wsV RX12 79 RX12 yX12_workAt wsX12_workAt) := goodIn_app (goodIn_of _ (by decide +kernel)) ggX12_flawOf_X12_workAt
set_option maxRecDepth 20000 in
theorem ggX12_flawOf_X12_wasPlayed : GoodIn wsX12_flawOf wsX12_wasPlayed := goodIn_r _ [16, 6, 7, 8, 4, 9, 1, 2, 3, 5, 10, 11, 12, 17, 18, 19, 20, 21, 22, 23, 24, 25, 26, 27, 28] (by decide +kernel) (by decide +kernel)
set_option maxRecDepth 20000 in
theorem gX12_flawOf_X12_wasPlayed : GoodIn wsX12_flawOf (wsV RX12 83 RX12 yX12_wasPlayed wsX12_wasPlayed) := goodIn_app (goodIn_of _ (by decide +kernel)) ggX12_flawOf_X12_wasPlayed
theorem dX12_flawOf_0 : decode cX12_flawOf 0 = .ok (.bipush 102, 2) := by decide +kernel
theorem dX12_flawOf_2 : decode cX12_flawOf 2 = .ok (.bipush 6, 2) := by decide +kernel
theorem dX12_flawOf_4 : decode cX12_flawOf 4 = .ok (.iload_n 2, 1) := by decide +kernel
theorem dX12_flawOf_5 : decode cX12_flawOf 5 = .ok (.imul, 1) := by decide +kernel
theorem dX12_flawOf_6 : decode cX12_flawOf 6 = .ok (.iadd, 1) := by decide +kernel
theorem dX12_flawOf_7 : decode cX12_flawOf 7 = .ok (.istore_n 3, 1) := by decide +kernel
theorem dX12_flawOf_8 : decode cX12_flawOf 8 = .ok (.aload_n 0, 1) := by decide +kernel
theorem dX12_flawOf_9 : decode cX12_flawOf 9 = .ok (.getfield 7, 3) := by decide +kernel
theorem dX12_flawOf_12 : decode cX12_flawOf 12 = .ok (.iload_n 1, 1) := by decide +kernel
theorem dX12_flawOf_13 : decode cX12_flawOf 13 = .ok (.iload_n 2, 1) := by decide +kernel
theorem dX12_flawOf_14 : decode cX12_flawOf 14 = .ok (.invokestatic 73, 3) := by decide +kernel
theorem dX12_flawOf_17 : decode cX12_flawOf 17 = .ok (.iaload, 1) := by decide +kernel
theorem dX12_flawOf_18 : decode cX12_flawOf 18 = .ok (.istore 4, 2) := by decide +kernel
theorem dX12_flawOf_20 : decode cX12_flawOf 20 = .ok (.iconst 0, 1) := by decide +kernel
theorem dX12_flawOf_21 : decode cX12_flawOf 21 = .ok (.istore 5, 2) := by decide +kernel
theorem dX12_flawOf_23 : decode cX12_flawOf 23 = .ok (.iconst 0, 1) := by decide +kernel
theorem dX12_flawOf_24 : decode cX12_flawOf 24 = .ok (.istore 6, 2) := by decide +kernel
theorem dX12_flawOf_26 : decode cX12_flawOf 26 = .ok (.iconst 0, 1) := by decide +kernel
theorem dX12_flawOf_27 : decode cX12_flawOf 27 = .ok (.istore 7, 2) := by decide +kernel
theorem dX12_flawOf_29 : decode cX12_flawOf 29 = .ok (.iconst 0, 1) := by decide +kernel
theorem dX12_flawOf_30 : decode cX12_flawOf 30 = .ok (.istore 8, 2) := by decide +kernel
theorem dX12_flawOf_32 : decode cX12_flawOf 32 = .ok (.iconst 0, 1) := by decide +kernel
theorem dX12_flawOf_33 : decode cX12_flawOf 33 = .ok (.istore 9, 2) := by decide +kernel
theorem dX12_flawOf_35 : decode cX12_flawOf 35 = .ok (.iload 9, 2) := by decide +kernel
theorem dX12_flawOf_37 : decode cX12_flawOf 37 = .ok (.iload 4, 2) := by decide +kernel
theorem dX12_flawOf_39 : decode cX12_flawOf 39 = .ok (.if_icmp .ge 164, 3) := by decide +kernel
theorem dX12_flawOf_42 : decode cX12_flawOf 42 = .ok (.aload_n 0, 1) := by decide +kernel
theorem dX12_flawOf_43 : decode cX12_flawOf 43 = .ok (.iload_n 1, 1) := by decide +kernel
theorem dX12_flawOf_44 : decode cX12_flawOf 44 = .ok (.iload_n 2, 1) := by decide +kernel
theorem dX12_flawOf_45 : decode cX12_flawOf 45 = .ok (.iload 9, 2) := by decide +kernel
theorem dX12_flawOf_47 : decode cX12_flawOf 47 = .ok (.invokevirtual 79, 3) := by decide +kernel
theorem dX12_flawOf_50 : decode cX12_flawOf 50 = .ok (.istore 10, 2) := by decide +kernel
theorem dX12_flawOf_52 : decode cX12_flawOf 52 = .ok (.aload_n 0, 1) := by decide +kernel
theorem dX12_flawOf_53 : decode cX12_flawOf 53 = .ok (.getfield 7, 3) := by decide +kernel
theorem dX12_flawOf_56 : decode cX12_flawOf 56 = .ok (.bipush 12, 2) := by decide +kernel
theorem dX12_flawOf_58 : decode cX12_flawOf 58 = .ok (.iconst 3, 1) := by decide +kernel
theorem dX12_flawOf_59 : decode cX12_flawOf 59 = .ok (.iload 10, 2) := by decide +kernel
theorem dX12_flawOf_61 : decode cX12_flawOf 61 = .ok (.imul, 1) := by decide +kernel
theorem dX12_flawOf_62 : decode cX12_flawOf 62 = .ok (.iadd, 1) := by decide +kernel
theorem dX12_flawOf_63 : decode cX12_flawOf 63 = .ok (.iaload, 1) := by decide +kernel
theorem dX12_flawOf_64 : decode cX12_flawOf 64 = .ok (.istore 11, 2) := by decide +kernel
theorem dX12_flawOf_66 : decode cX12_flawOf 66 = .ok (.iconst 0, 1) := by decide +kernel
theorem dX12_flawOf_67 : decode cX12_flawOf 67 = .ok (.istore 12, 2) := by decide +kernel
theorem dX12_flawOf_69 : decode cX12_flawOf 69 = .ok (.iconst 0, 1) := by decide +kernel
theorem dX12_flawOf_70 : decode cX12_flawOf 70 = .ok (.istore 13, 2) := by decide +kernel
theorem dX12_flawOf_72 : decode cX12_flawOf 72 = .ok (.iload 13, 2) := by decide +kernel
theorem dX12_flawOf_74 : decode cX12_flawOf 74 = .ok (.iload 4, 2) := by decide +kernel
theorem dX12_flawOf_76 : decode cX12_flawOf 76 = .ok (.if_icmp .ge 42, 3) := by decide +kernel
theorem dX12_flawOf_79 : decode cX12_flawOf 79 = .ok (.iload 12, 2) := by decide +kernel
theorem dX12_flawOf_81 : decode cX12_flawOf 81 = .ok (.aload_n 0, 1) := by decide +kernel
theorem dX12_flawOf_82 : decode cX12_flawOf 82 = .ok (.getfield 7, 3) := by decide +kernel
theorem dX12_flawOf_85 : decode cX12_flawOf 85 = .ok (.bipush 12, 2) := by decide +kernel
theorem dX12_flawOf_87 : decode cX12_flawOf 87 = .ok (.iconst 3, 1) := by decide +kernel
theorem dX12_flawOf_88 : decode cX12_flawOf 88 = .ok (.aload_n 0, 1) := by decide +kernel
theorem dX12_flawOf_89 : decode cX12_flawOf 89 = .ok (.iload_n 1, 1) := by decide +kernel
theorem dX12_flawOf_90 : decode cX12_flawOf 90 = .ok (.iload_n 2, 1) := by decide +kernel
theorem dX12_flawOf_91 : decode cX12_flawOf 91 = .ok (.iload 13, 2) := by decide +kernel
theorem dX12_flawOf_93 : decode cX12_flawOf 93 = .ok (.invokevirtual 79, 3) := by decide +kernel
theorem dX12_flawOf_96 : decode cX12_flawOf 96 = .ok (.imul, 1) := by decide +kernel
theorem dX12_flawOf_97 : decode cX12_flawOf 97 = .ok (.iadd, 1) := by decide +kernel
theorem dX12_flawOf_98 : decode cX12_flawOf 98 = .ok (.iaload, 1) := by decide +kernel
theorem dX12_flawOf_99 : decode cX12_flawOf 99 = .ok (.iload 11, 2) := by decide +kernel
theorem dX12_flawOf_101 : decode cX12_flawOf 101 = .ok (.if_icmp .ne 7, 3) := by decide +kernel
theorem dX12_flawOf_104 : decode cX12_flawOf 104 = .ok (.iconst 1, 1) := by decide +kernel
theorem dX12_flawOf_105 : decode cX12_flawOf 105 = .ok (.goto 4, 3) := by decide +kernel
theorem dX12_flawOf_108 : decode cX12_flawOf 108 = .ok (.iconst 0, 1) := by decide +kernel
theorem dX12_flawOf_109 : decode cX12_flawOf 109 = .ok (.iadd, 1) := by decide +kernel
theorem dX12_flawOf_110 : decode cX12_flawOf 110 = .ok (.istore 12, 2) := by decide +kernel
theorem dX12_flawOf_112 : decode cX12_flawOf 112 = .ok (.iinc 13 1, 3) := by decide +kernel
theorem dX12_flawOf_115 : decode cX12_flawOf 115 = .ok (.goto (-43), 3) := by decide +kernel
theorem dX12_flawOf_118 : decode cX12_flawOf 118 = .ok (.iload 12, 2) := by decide +kernel
theorem dX12_flawOf_120 : decode cX12_flawOf 120 = .ok (.iload 7, 2) := by decide +kernel
theorem dX12_flawOf_122 : decode cX12_flawOf 122 = .ok (.if_icmp .le 8, 3) := by decide +kernel
theorem dX12_flawOf_125 : decode cX12_flawOf 125 = .ok (.iload 12, 2) := by decide +kernel
theorem dX12_flawOf_127 : decode cX12_flawOf 127 = .ok (.goto 5, 3) := by decide +kernel
theorem dX12_flawOf_130 : decode cX12_flawOf 130 = .ok (.iload 7, 2) := by decide +kernel
theorem dX12_flawOf_132 : decode cX12_flawOf 132 = .ok (.istore 7, 2) := by decide +kernel
theorem dX12_flawOf_134 : decode cX12_flawOf 134 = .ok (.iload 5, 2) := by decide +kernel
theorem dX12_flawOf_136 : decode cX12_flawOf 136 = .ok (.aload_n 0, 1) := by decide +kernel
theorem dX12_flawOf_137 : decode cX12_flawOf 137 = .ok (.getfield 7, 3) := by decide +kernel
theorem dX12_flawOf_140 : decode cX12_flawOf 140 = .ok (.bipush 12, 2) := by decide +kernel
theorem dX12_flawOf_142 : decode cX12_flawOf 142 = .ok (.iconst 3, 1) := by decide +kernel
theorem dX12_flawOf_143 : decode cX12_flawOf 143 = .ok (.iload 10, 2) := by decide +kernel
theorem dX12_flawOf_145 : decode cX12_flawOf 145 = .ok (.imul, 1) := by decide +kernel
theorem dX12_flawOf_146 : decode cX12_flawOf 146 = .ok (.iadd, 1) := by decide +kernel
theorem dX12_flawOf_147 : decode cX12_flawOf 147 = .ok (.iconst 2, 1) := by decide +kernel
theorem dX12_flawOf_148 : decode cX12_flawOf 148 = .ok (.iadd, 1) := by decide +kernel
theorem dX12_flawOf_149 : decode cX12_flawOf 149 = .ok (.iaload, 1) := by decide +kernel
theorem dX12_flawOf_150 : decode cX12_flawOf 150 = .ok (.iadd, 1) := by decide +kernel
theorem dX12_flawOf_151 : decode cX12_flawOf 151 = .ok (.istore 5, 2) := by decide +kernel
theorem dX12_flawOf_153 : decode cX12_flawOf 153 = .ok (.iload 6, 2) := by decide +kernel
theorem dX12_flawOf_155 : decode cX12_flawOf 155 = .ok (.iconst 1, 1) := by decide +kernel
theorem dX12_flawOf_156 : decode cX12_flawOf 156 = .ok (.aload_n 0, 1) := by decide +kernel
theorem dX12_flawOf_157 : decode cX12_flawOf 157 = .ok (.getfield 7, 3) := by decide +kernel
theorem dX12_flawOf_160 : decode cX12_flawOf 160 = .ok (.bipush 12, 2) := by decide +kernel
theorem dX12_flawOf_162 : decode cX12_flawOf 162 = .ok (.iconst 3, 1) := by decide +kernel
theorem dX12_flawOf_163 : decode cX12_flawOf 163 = .ok (.iload 10, 2) := by decide +kernel
theorem dX12_flawOf_165 : decode cX12_flawOf 165 = .ok (.imul, 1) := by decide +kernel
theorem dX12_flawOf_166 : decode cX12_flawOf 166 = .ok (.iadd, 1) := by decide +kernel
theorem dX12_flawOf_167 : decode cX12_flawOf 167 = .ok (.iconst 1, 1) := by decide +kernel
theorem dX12_flawOf_168 : decode cX12_flawOf 168 = .ok (.iadd, 1) := by decide +kernel
theorem dX12_flawOf_169 : decode cX12_flawOf 169 = .ok (.iaload, 1) := by decide +kernel
theorem dX12_flawOf_170 : decode cX12_flawOf 170 = .ok (.ishl, 1) := by decide +kernel
theorem dX12_flawOf_171 : decode cX12_flawOf 171 = .ok (.ior, 1) := by decide +kernel
theorem dX12_flawOf_172 : decode cX12_flawOf 172 = .ok (.istore 6, 2) := by decide +kernel
theorem dX12_flawOf_174 : decode cX12_flawOf 174 = .ok (.iload 8, 2) := by decide +kernel
theorem dX12_flawOf_176 : decode cX12_flawOf 176 = .ok (.ifCond .ne 14, 3) := by decide +kernel
theorem dX12_flawOf_179 : decode cX12_flawOf 179 = .ok (.aload_n 0, 1) := by decide +kernel
theorem dX12_flawOf_180 : decode cX12_flawOf 180 = .ok (.iload_n 1, 1) := by decide +kernel
theorem dX12_flawOf_181 : decode cX12_flawOf 181 = .ok (.iload_n 2, 1) := by decide +kernel
theorem dX12_flawOf_182 : decode cX12_flawOf 182 = .ok (.iload 10, 2) := by decide +kernel
theorem dX12_flawOf_184 : decode cX12_flawOf 184 = .ok (.invokevirtual 83, 3) := by decide +kernel
theorem dX12_flawOf_187 : decode cX12_flawOf 187 = .ok (.ifCond .eq 7, 3) := by decide +kernel
theorem dX12_flawOf_190 : decode cX12_flawOf 190 = .ok (.iconst 1, 1) := by decide +kernel
theorem dX12_flawOf_191 : decode cX12_flawOf 191 = .ok (.goto 4, 3) := by decide +kernel
theorem dX12_flawOf_194 : decode cX12_flawOf 194 = .ok (.iconst 0, 1) := by decide +kernel
theorem dX12_flawOf_195 : decode cX12_flawOf 195 = .ok (.istore 8, 2) := by decide +kernel
theorem dX12_flawOf_197 : decode cX12_flawOf 197 = .ok (.iinc 9 1, 3) := by decide +kernel
theorem dX12_flawOf_200 : decode cX12_flawOf 200 = .ok (.goto (-165), 3) := by decide +kernel
theorem dX12_flawOf_203 : decode cX12_flawOf 203 = .ok (.iload 4, 2) := by decide +kernel
theorem dX12_flawOf_205 : decode cX12_flawOf 205 = .ok (.ifCond .ne 5, 3) := by decide +kernel
theorem dX12_flawOf_208 : decode cX12_flawOf 208 = .ok (.iconst 1, 1) := by decide +kernel
theorem dX12_flawOf_209 : decode cX12_flawOf 209 = .ok (.ireturn, 1) := by decide +kernel
theorem dX12_flawOf_210 : decode cX12_flawOf 210 = .ok (.iload 5, 2) := by decide +kernel
theorem dX12_flawOf_212 : decode cX12_flawOf 212 = .ok (.aload_n 0, 1) := by decide +kernel
theorem dX12_flawOf_213 : decode cX12_flawOf 213 = .ok (.getfield 7, 3) := by decide +kernel
theorem dX12_flawOf_216 : decode cX12_flawOf 216 = .ok (.iload_n 3, 1) := by decide +kernel
theorem dX12_flawOf_217 : decode cX12_flawOf 217 = .ok (.iconst 0, 1) := by decide +kernel
theorem dX12_flawOf_218 : decode cX12_flawOf 218 = .ok (.iadd, 1) := by decide +kernel
theorem dX12_flawOf_219 : decode cX12_flawOf 219 = .ok (.iaload, 1) := by decide +kernel
theorem dX12_flawOf_220 : decode cX12_flawOf 220 = .ok (.if_icmp .ge 7, 3) := by decide +kernel
theorem dX12_flawOf_223 : decode cX12_flawOf 223 = .ok (.iconst 2, 1) := by decide +kernel
theorem dX12_flawOf_224 : decode cX12_flawOf 224 = .ok (.goto 80, 3) := by decide +kernel
theorem dX12_flawOf_227 : decode cX12_flawOf 227 = .ok (.iload 5, 2) := by decide +kernel
theorem dX12_flawOf_229 : decode cX12_flawOf 229 = .ok (.aload_n 0, 1) := by decide +kernel
theorem dX12_flawOf_230 : decode cX12_flawOf 230 = .ok (.getfield 7, 3) := by decide +kernel
theorem dX12_flawOf_233 : decode cX12_flawOf 233 = .ok (.iload_n 3, 1) := by decide +kernel
theorem dX12_flawOf_234 : decode cX12_flawOf 234 = .ok (.iconst 1, 1) := by decide +kernel
theorem dX12_flawOf_235 : decode cX12_flawOf 235 = .ok (.iadd, 1) := by decide +kernel
theorem dX12_flawOf_236 : decode cX12_flawOf 236 = .ok (.iaload, 1) := by decide +kernel
theorem dX12_flawOf_237 : decode cX12_flawOf 237 = .ok (.if_icmp .le 7, 3) := by decide +kernel
theorem dX12_flawOf_240 : decode cX12_flawOf 240 = .ok (.iconst 3, 1) := by decide +kernel
theorem dX12_flawOf_241 : decode cX12_flawOf 241 = .ok (.goto 63, 3) := by decide +kernel
theorem dX12_flawOf_244 : decode cX12_flawOf 244 = .ok (.aload_n 0, 1) := by decide +kernel
theorem dX12_flawOf_245 : decode cX12_flawOf 245 = .ok (.getfield 7, 3) := by decide +kernel
theorem dX12_flawOf_248 : decode cX12_flawOf 248 = .ok (.iload_n 3, 1) := by decide +kernel
theorem dX12_flawOf_249 : decode cX12_flawOf 249 = .ok (.iconst 2, 1) := by decide +kernel
theorem dX12_flawOf_250 : decode cX12_flawOf 250 = .ok (.iadd, 1) := by decide +kernel
theorem dX12_flawOf_251 : decode cX12_flawOf 251 = .ok (.iaload, 1) := by decide +kernel
theorem dX12_flawOf_252 : decode cX12_flawOf 252 = .ok (.iload 6, 2) := by decide +kernel
theorem dX12_flawOf_254 : decode cX12_flawOf 254 = .ok (.iconst (-1), 1) := by decide +kernel
theorem dX12_flawOf_255 : decode cX12_flawOf 255 = .ok (.ixor, 1) := by decide +kernel
theorem dX12_flawOf_256 : decode cX12_flawOf 256 = .ok (.iand, 1) := by decide +kernel
theorem dX12_flawOf_257 : decode cX12_flawOf 257 = .ok (.ifCond .eq 7, 3) := by decide +kernel
theorem dX12_flawOf_260 : decode cX12_flawOf 260 = .ok (.iconst 4, 1) := by decide +kernel
theorem dX12_flawOf_261 : decode cX12_flawOf 261 = .ok (.goto 43, 3) := by decide +kernel
theorem dX12_flawOf_264 : decode cX12_flawOf 264 = .ok (.iload 7, 2) := by decide +kernel
theorem dX12_flawOf_266 : decode cX12_flawOf 266 = .ok (.aload_n 0, 1) := by decide +kernel
theorem dX12_flawOf_267 : decode cX12_flawOf 267 = .ok (.getfield 7, 3) := by decide +kernel
theorem dX12_flawOf_270 : decode cX12_flawOf 270 = .ok (.iload_n 3, 1) := by decide +kernel
theorem dX12_flawOf_271 : decode cX12_flawOf 271 = .ok (.iconst 3, 1) := by decide +kernel
theorem dX12_flawOf_272 : decode cX12_flawOf 272 = .ok (.iadd, 1) := by decide +kernel
theorem dX12_flawOf_273 : decode cX12_flawOf 273 = .ok (.iaload, 1) := by decide +kernel
theorem dX12_flawOf_274 : decode cX12_flawOf 274 = .ok (.if_icmp .le 7, 3) := by decide +kernel
theorem dX12_flawOf_277 : decode cX12_flawOf 277 = .ok (.iconst 5, 1) := by decide +kernel
theorem dX12_flawOf_278 : decode cX12_flawOf 278 = .ok (.goto 26, 3) := by decide +kernel
theorem dX12_flawOf_281 : decode cX12_flawOf 281 = .ok (.aload_n 0, 1) := by decide +kernel
theorem dX12_flawOf_282 : decode cX12_flawOf 282 = .ok (.getfield 7, 3) := by decide +kernel
theorem dX12_flawOf_285 : decode cX12_flawOf 285 = .ok (.iload_n 3, 1) := by decide +kernel
theorem dX12_flawOf_286 : decode cX12_flawOf 286 = .ok (.iconst 4, 1) := by decide +kernel
theorem dX12_flawOf_287 : decode cX12_flawOf 287 = .ok (.iadd, 1) := by decide +kernel
theorem dX12_flawOf_288 : decode cX12_flawOf 288 = .ok (.iaload, 1) := by decide +kernel
theorem dX12_flawOf_289 : decode cX12_flawOf 289 = .ok (.iconst 1, 1) := by decide +kernel
theorem dX12_flawOf_290 : decode cX12_flawOf 290 = .ok (.if_icmp .ne 13, 3) := by decide +kernel
theorem dX12_flawOf_293 : decode cX12_flawOf 293 = .ok (.iload 8, 2) := by decide +kernel
theorem dX12_flawOf_295 : decode cX12_flawOf 295 = .ok (.ifCond .eq 8, 3) := by decide +kernel
theorem dX12_flawOf_298 : decode cX12_flawOf 298 = .ok (.bipush 6, 2) := by decide +kernel
theorem dX12_flawOf_300 : decode cX12_flawOf 300 = .ok (.goto 4, 3) := by decide +kernel
theorem dX12_flawOf_303 : decode cX12_flawOf 303 = .ok (.iconst 0, 1) := by decide +kernel
theorem dX12_flawOf_304 : decode cX12_flawOf 304 = .ok (.ireturn, 1) := by decide +kernel
set_option maxRecDepth 20000 in
theorem ggX12_flaw_X12_isEntrant : GoodIn wsX12_flaw wsX12_isEntrant := goodIn_r _ [6, 7, 8, 9, 5, 10, 29, 30, 31, 32, 33, 34, 35, 36, 37, 38, 39, 40] (by decide +kernel) (by decide +kernel)
set_option maxRecDepth 20000 in
theorem gX12_flaw_X12_isEntrant : GoodIn wsX12_flaw (wsV RX12 53 RX12 yX12_isEntrant wsX12_isEntrant) := goodIn_app (goodIn_of _ (by decide +kernel)) ggX12_flaw_X12_isEntrant
set_option maxRecDepth 20000 in
theorem ggX12_flaw_X12_isRound : GoodIn wsX12_flaw wsX12_isRound := goodIn_r _ [13, 8, 9, 5, 10] (by decide +kernel) (by decide +kernel)
set_option maxRecDepth 20000 in
theorem gX12_flaw_X12_isRound : GoodIn wsX12_flaw (va_wsS RX12 63 yX12_isRound wsX12_isRound) := goodIn_app (goodIn_of _ (by decide +kernel)) ggX12_flaw_X12_isRound
set_option maxRecDepth 20000 in
theorem ggX12_flaw_X12_flawOf : GoodIn wsX12_flaw wsX12_flawOf := goodIn_r _ [17, 7, 18, 19, 5, 20, 21, 22, 23, 24, 8, 9, 10, 25, 26, 27, 28, 29, 30, 31, 32, 33, 34, 35, 36, 37, 38, 39, 40] (by decide +kernel) (by decide +kernel)
set_option maxRecDepth 20000 in
theorem gX12_flaw_X12_flawOf : GoodIn wsX12_flaw (wsV RX12 86 RX12 yX12_flawOf wsX12_flawOf) := goodIn_app (goodIn_of _ (by decide +kernel)) ggX12_flaw_X12_flawOf
theorem dX12_flaw_0 : decode cX12_flaw 0 = .ok (.aload_n 0, 1) := by decide +kernel
theorem dX12_flaw_1 : decode cX12_flaw 1 = .ok (.aload_n 0, 1) := by decide +kernel
theorem dX12_flaw_2 : decode cX12_flaw 2 = .ok (.iload_n 1, 1) := by decide +kernel
theorem dX12_flaw_3 : decode cX12_flaw 3 = .ok (.invokevirtual 53, 3) := by decide +kernel
theorem dX12_flaw_6 : decode cX12_flaw 6 = .ok (.ifCond .eq 14, 3) := by decide +kernel
theorem dX12_flaw_9 : decode cX12_flaw 9 = .ok (.iload_n 2, 1) := by decide +kernel
theorem dX12_flaw_10 : decode cX12_flaw 10 = .ok (.invokestatic 63, 3) := by decide +kernel
theorem dX12_flaw_13 : decode cX12_flaw 13 = .ok (.ifCond .eq 7, 3) := by decide +kernel
theorem dX12_flaw_16 : decode cX12_flaw 16 = .ok (.iconst 0, 1) := by decide +kernel
theorem dX12_flaw_17 : decode cX12_flaw 17 = .ok (.goto 4, 3) := by decide +kernel
theorem dX12_flaw_20 : decode cX12_flaw 20 = .ok (.iconst 1, 1) := by decide +kernel
theorem dX12_flaw_21 : decode cX12_flaw 21 = .ok (.putfield 31, 3) := by decide +kernel
theorem dX12_flaw_24 : decode cX12_flaw 24 = .ok (.aload_n 0, 1) := by decide +kernel
theorem dX12_flaw_25 : decode cX12_flaw 25 = .ok (.getfield 31, 3) := by decide +kernel
theorem dX12_flaw_28 : decode cX12_flaw 28 = .ok (.ifCond .eq 7, 3) := by decide +kernel
theorem dX12_flaw_31 : decode cX12_flaw 31 = .ok (.iconst 0, 1) := by decide +kernel
theorem dX12_flaw_32 : decode cX12_flaw 32 = .ok (.goto 9, 3) := by decide +kernel
theorem dX12_flaw_35 : decode cX12_flaw 35 = .ok (.aload_n 0, 1) := by decide +kernel
theorem dX12_flaw_36 : decode cX12_flaw 36 = .ok (.iload_n 1, 1) := by decide +kernel
theorem dX12_flaw_37 : decode cX12_flaw 37 = .ok (.iload_n 2, 1) := by decide +kernel
theorem dX12_flaw_38 : decode cX12_flaw 38 = .ok (.invokevirtual 86, 3) := by decide +kernel
theorem dX12_flaw_41 : decode cX12_flaw 41 = .ok (.ireturn, 1) := by decide +kernel
theorem dX12_clearTie_0 : decode cX12_clearTie 0 = .ok (.aload_n 0, 1) := by decide +kernel
theorem dX12_clearTie_1 : decode cX12_clearTie 1 = .ok (.getfield 7, 3) := by decide +kernel
theorem dX12_clearTie_4 : decode cX12_clearTie 4 = .ok (.bipush 9, 2) := by decide +kernel
theorem dX12_clearTie_6 : decode cX12_clearTie 6 = .ok (.iconst 0, 1) := by decide +kernel
theorem dX12_clearTie_7 : decode cX12_clearTie 7 = .ok (.iastore, 1) := by decide +kernel
theorem dX12_clearTie_8 : decode cX12_clearTie 8 = .ok (.aload_n 0, 1) := by decide +kernel
theorem dX12_clearTie_9 : decode cX12_clearTie 9 = .ok (.getfield 7, 3) := by decide +kernel
theorem dX12_clearTie_12 : decode cX12_clearTie 12 = .ok (.bipush 10, 2) := by decide +kernel
theorem dX12_clearTie_14 : decode cX12_clearTie 14 = .ok (.iconst 0, 1) := by decide +kernel
theorem dX12_clearTie_15 : decode cX12_clearTie 15 = .ok (.iastore, 1) := by decide +kernel
theorem dX12_clearTie_16 : decode cX12_clearTie 16 = .ok (.iconst 0, 1) := by decide +kernel
theorem dX12_clearTie_17 : decode cX12_clearTie 17 = .ok (.istore_n 1, 1) := by decide +kernel
theorem dX12_clearTie_18 : decode cX12_clearTie 18 = .ok (.iload_n 1, 1) := by decide +kernel
theorem dX12_clearTie_19 : decode cX12_clearTie 19 = .ok (.bipush 84, 2) := by decide +kernel
theorem dX12_clearTie_21 : decode cX12_clearTie 21 = .ok (.if_icmp .ge 20, 3) := by decide +kernel
theorem dX12_clearTie_24 : decode cX12_clearTie 24 = .ok (.aload_n 0, 1) := by decide +kernel
theorem dX12_clearTie_25 : decode cX12_clearTie 25 = .ok (.getfield 7, 3) := by decide +kernel
theorem dX12_clearTie_28 : decode cX12_clearTie 28 = .ok (.sipush 570, 3) := by decide +kernel
theorem dX12_clearTie_31 : decode cX12_clearTie 31 = .ok (.iload_n 1, 1) := by decide +kernel
theorem dX12_clearTie_32 : decode cX12_clearTie 32 = .ok (.iadd, 1) := by decide +kernel
theorem dX12_clearTie_33 : decode cX12_clearTie 33 = .ok (.iconst (-1), 1) := by decide +kernel
theorem dX12_clearTie_34 : decode cX12_clearTie 34 = .ok (.iastore, 1) := by decide +kernel
theorem dX12_clearTie_35 : decode cX12_clearTie 35 = .ok (.iinc 1 1, 3) := by decide +kernel
theorem dX12_clearTie_38 : decode cX12_clearTie 38 = .ok (.goto (-20), 3) := by decide +kernel
theorem dX12_clearTie_41 : decode cX12_clearTie 41 = .ok (.iconst 0, 1) := by decide +kernel
theorem dX12_clearTie_42 : decode cX12_clearTie 42 = .ok (.istore_n 1, 1) := by decide +kernel
theorem dX12_clearTie_43 : decode cX12_clearTie 43 = .ok (.iload_n 1, 1) := by decide +kernel
theorem dX12_clearTie_44 : decode cX12_clearTie 44 = .ok (.bipush 12, 2) := by decide +kernel
theorem dX12_clearTie_46 : decode cX12_clearTie 46 = .ok (.if_icmp .ge 20, 3) := by decide +kernel
theorem dX12_clearTie_49 : decode cX12_clearTie 49 = .ok (.aload_n 0, 1) := by decide +kernel
theorem dX12_clearTie_50 : decode cX12_clearTie 50 = .ok (.getfield 7, 3) := by decide +kernel
theorem dX12_clearTie_53 : decode cX12_clearTie 53 = .ok (.sipush 654, 3) := by decide +kernel
theorem dX12_clearTie_56 : decode cX12_clearTie 56 = .ok (.iload_n 1, 1) := by decide +kernel
theorem dX12_clearTie_57 : decode cX12_clearTie 57 = .ok (.iadd, 1) := by decide +kernel
theorem dX12_clearTie_58 : decode cX12_clearTie 58 = .ok (.iconst 0, 1) := by decide +kernel
theorem dX12_clearTie_59 : decode cX12_clearTie 59 = .ok (.iastore, 1) := by decide +kernel
theorem dX12_clearTie_60 : decode cX12_clearTie 60 = .ok (.iinc 1 1, 3) := by decide +kernel
theorem dX12_clearTie_63 : decode cX12_clearTie 63 = .ok (.goto (-20), 3) := by decide +kernel
theorem dX12_clearTie_66 : decode cX12_clearTie 66 = .ok (.return_, 1) := by decide +kernel
set_option maxRecDepth 20000 in
theorem ggX12_clearMarks_X12_clearTie : GoodIn wsX12_clearMarks wsX12_clearTie := goodIn_r _ [6, 1, 7, 8, 9, 10, 11, 12, 13, 14, 15, 16, 17, 18] (by decide +kernel) (by decide +kernel)
set_option maxRecDepth 20000 in
theorem gX12_clearMarks_X12_clearTie : GoodIn wsX12_clearMarks (wsV RX12 89 RX12 yX12_clearTie wsX12_clearTie) := goodIn_app (goodIn_of _ (by decide +kernel)) ggX12_clearMarks_X12_clearTie
theorem dX12_clearMarks_0 : decode cX12_clearMarks 0 = .ok (.iconst 0, 1) := by decide +kernel
theorem dX12_clearMarks_1 : decode cX12_clearMarks 1 = .ok (.istore_n 1, 1) := by decide +kernel
theorem dX12_clearMarks_2 : decode cX12_clearMarks 2 = .ok (.iload_n 1, 1) := by decide +kernel
theorem dX12_clearMarks_3 : decode cX12_clearMarks 3 = .ok (.bipush 84, 2) := by decide +kernel
theorem dX12_clearMarks_5 : decode cX12_clearMarks 5 = .ok (.if_icmp .ge 20, 3) := by decide +kernel
theorem dX12_clearMarks_8 : decode cX12_clearMarks 8 = .ok (.aload_n 0, 1) := by decide +kernel
theorem dX12_clearMarks_9 : decode cX12_clearMarks 9 = .ok (.getfield 7, 3) := by decide +kernel
theorem dX12_clearMarks_12 : decode cX12_clearMarks 12 = .ok (.sipush 486, 3) := by decide +kernel
theorem dX12_clearMarks_15 : decode cX12_clearMarks 15 = .ok (.iload_n 1, 1) := by decide +kernel
theorem dX12_clearMarks_16 : decode cX12_clearMarks 16 = .ok (.iadd, 1) := by decide +kernel
theorem dX12_clearMarks_17 : decode cX12_clearMarks 17 = .ok (.iconst (-1), 1) := by decide +kernel
theorem dX12_clearMarks_18 : decode cX12_clearMarks 18 = .ok (.iastore, 1) := by decide +kernel
theorem dX12_clearMarks_19 : decode cX12_clearMarks 19 = .ok (.iinc 1 1, 3) := by decide +kernel
theorem dX12_clearMarks_22 : decode cX12_clearMarks 22 = .ok (.goto (-20), 3) := by decide +kernel
theorem dX12_clearMarks_25 : decode cX12_clearMarks 25 = .ok (.aload_n 0, 1) := by decide +kernel
theorem dX12_clearMarks_26 : decode cX12_clearMarks 26 = .ok (.invokevirtual 89, 3) := by decide +kernel
theorem dX12_clearMarks_29 : decode cX12_clearMarks 29 = .ok (.return_, 1) := by decide +kernel
theorem dX12_draw_0 : decode cX12_draw 0 = .ok (.aload_n 0, 1) := by decide +kernel
theorem dX12_draw_1 : decode cX12_draw 1 = .ok (.getfield 7, 3) := by decide +kernel
theorem dX12_draw_4 : decode cX12_draw 4 = .ok (.bipush 7, 2) := by decide +kernel
theorem dX12_draw_6 : decode cX12_draw 6 = .ok (.iaload, 1) := by decide +kernel
theorem dX12_draw_7 : decode cX12_draw 7 = .ok (.iconst 1, 1) := by decide +kernel
theorem dX12_draw_8 : decode cX12_draw 8 = .ok (.isub, 1) := by decide +kernel
theorem dX12_draw_9 : decode cX12_draw 9 = .ok (.istore_n 1, 1) := by decide +kernel
theorem dX12_draw_10 : decode cX12_draw 10 = .ok (.iload_n 1, 1) := by decide +kernel
theorem dX12_draw_11 : decode cX12_draw 11 = .ok (.ifCond .le 94, 3) := by decide +kernel
theorem dX12_draw_14 : decode cX12_draw 14 = .ok (.aload_n 0, 1) := by decide +kernel
theorem dX12_draw_15 : decode cX12_draw 15 = .ok (.getfield 7, 3) := by decide +kernel
theorem dX12_draw_18 : decode cX12_draw 18 = .ok (.bipush 11, 2) := by decide +kernel
theorem dX12_draw_20 : decode cX12_draw 20 = .ok (.aload_n 0, 1) := by decide +kernel
theorem dX12_draw_21 : decode cX12_draw 21 = .ok (.getfield 7, 3) := by decide +kernel
theorem dX12_draw_24 : decode cX12_draw 24 = .ok (.bipush 11, 2) := by decide +kernel
theorem dX12_draw_26 : decode cX12_draw 26 = .ok (.iaload, 1) := by decide +kernel
theorem dX12_draw_27 : decode cX12_draw 27 = .ok (.i2l, 1) := by decide +kernel
theorem dX12_draw_28 : decode cX12_draw 28 = .ok (.ldc2_w 92, 3) := by decide +kernel
theorem dX12_draw_31 : decode cX12_draw 31 = .ok (.lmul, 1) := by decide +kernel
theorem dX12_draw_32 : decode cX12_draw 32 = .ok (.ldc2_w 94, 3) := by decide +kernel
theorem dX12_draw_35 : decode cX12_draw 35 = .ok (.ladd, 1) := by decide +kernel
theorem dX12_draw_36 : decode cX12_draw 36 = .ok (.ldc2_w 96, 3) := by decide +kernel
theorem dX12_draw_39 : decode cX12_draw 39 = .ok (.lrem, 1) := by decide +kernel
theorem dX12_draw_40 : decode cX12_draw 40 = .ok (.l2i, 1) := by decide +kernel
theorem dX12_draw_41 : decode cX12_draw 41 = .ok (.iastore, 1) := by decide +kernel
theorem dX12_draw_42 : decode cX12_draw 42 = .ok (.aload_n 0, 1) := by decide +kernel
theorem dX12_draw_43 : decode cX12_draw 43 = .ok (.getfield 7, 3) := by decide +kernel
theorem dX12_draw_46 : decode cX12_draw 46 = .ok (.bipush 11, 2) := by decide +kernel
theorem dX12_draw_48 : decode cX12_draw 48 = .ok (.iaload, 1) := by decide +kernel
theorem dX12_draw_49 : decode cX12_draw 49 = .ok (.ldc 98, 2) := by decide +kernel
theorem dX12_draw_51 : decode cX12_draw 51 = .ok (.idiv, 1) := by decide +kernel
theorem dX12_draw_52 : decode cX12_draw 52 = .ok (.iload_n 1, 1) := by decide +kernel
theorem dX12_draw_53 : decode cX12_draw 53 = .ok (.iconst 1, 1) := by decide +kernel
theorem dX12_draw_54 : decode cX12_draw 54 = .ok (.iadd, 1) := by decide +kernel
theorem dX12_draw_55 : decode cX12_draw 55 = .ok (.irem, 1) := by decide +kernel
theorem dX12_draw_56 : decode cX12_draw 56 = .ok (.istore_n 2, 1) := by decide +kernel
theorem dX12_draw_57 : decode cX12_draw 57 = .ok (.aload_n 0, 1) := by decide +kernel
theorem dX12_draw_58 : decode cX12_draw 58 = .ok (.getfield 7, 3) := by decide +kernel
theorem dX12_draw_61 : decode cX12_draw 61 = .ok (.sipush 462, 3) := by decide +kernel
theorem dX12_draw_64 : decode cX12_draw 64 = .ok (.iload_n 1, 1) := by decide +kernel
theorem dX12_draw_65 : decode cX12_draw 65 = .ok (.iadd, 1) := by decide +kernel
theorem dX12_draw_66 : decode cX12_draw 66 = .ok (.iaload, 1) := by decide +kernel
theorem dX12_draw_67 : decode cX12_draw 67 = .ok (.istore_n 3, 1) := by decide +kernel
theorem dX12_draw_68 : decode cX12_draw 68 = .ok (.aload_n 0, 1) := by decide +kernel
theorem dX12_draw_69 : decode cX12_draw 69 = .ok (.getfield 7, 3) := by decide +kernel
theorem dX12_draw_72 : decode cX12_draw 72 = .ok (.sipush 462, 3) := by decide +kernel
theorem dX12_draw_75 : decode cX12_draw 75 = .ok (.iload_n 1, 1) := by decide +kernel
theorem dX12_draw_76 : decode cX12_draw 76 = .ok (.iadd, 1) := by decide +kernel
theorem dX12_draw_77 : decode cX12_draw 77 = .ok (.aload_n 0, 1) := by decide +kernel
theorem dX12_draw_78 : decode cX12_draw 78 = .ok (.getfield 7, 3) := by decide +kernel
theorem dX12_draw_81 : decode cX12_draw 81 = .ok (.sipush 462, 3) := by decide +kernel
theorem dX12_draw_84 : decode cX12_draw 84 = .ok (.iload_n 2, 1) := by decide +kernel
theorem dX12_draw_85 : decode cX12_draw 85 = .ok (.iadd, 1) := by decide +kernel
theorem dX12_draw_86 : decode cX12_draw 86 = .ok (.iaload, 1) := by decide +kernel
theorem dX12_draw_87 : decode cX12_draw 87 = .ok (.iastore, 1) := by decide +kernel
theorem dX12_draw_88 : decode cX12_draw 88 = .ok (.aload_n 0, 1) := by decide +kernel
theorem dX12_draw_89 : decode cX12_draw 89 = .ok (.getfield 7, 3) := by decide +kernel
theorem dX12_draw_92 : decode cX12_draw 92 = .ok (.sipush 462, 3) := by decide +kernel
theorem dX12_draw_95 : decode cX12_draw 95 = .ok (.iload_n 2, 1) := by decide +kernel
theorem dX12_draw_96 : decode cX12_draw 96 = .ok (.iadd, 1) := by decide +kernel
theorem dX12_draw_97 : decode cX12_draw 97 = .ok (.iload_n 3, 1) := by decide +kernel
theorem dX12_draw_98 : decode cX12_draw 98 = .ok (.iastore, 1) := by decide +kernel
theorem dX12_draw_99 : decode cX12_draw 99 = .ok (.iinc 1 (-1), 3) := by decide +kernel
theorem dX12_draw_102 : decode cX12_draw 102 = .ok (.goto (-92), 3) := by decide +kernel
theorem dX12_draw_105 : decode cX12_draw 105 = .ok (.return_, 1) := by decide +kernel
set_option maxRecDepth 20000 in
theorem ggX12_beginRound_X12_clearMarks : GoodIn wsX12_beginRound wsX12_clearMarks := goodIn_r _ [6, 1, 7, 8, 9, 5, 10, 37, 38, 39, 40, 41, 42, 43, 44, 45, 46, 47, 48] (by decide +kernel) (by decide +kernel)
set_option maxRecDepth 20000 in
theorem gX12_beginRound_X12_clearMarks : GoodIn wsX12_beginRound (wsV RX12 28 RX12 yX12_clearMarks wsX12_clearMarks) := goodIn_app (goodIn_of _ (by decide +kernel)) ggX12_beginRound_X12_clearMarks
set_option maxRecDepth 20000 in
theorem ggX12_beginRound_X12_flawOf : GoodIn wsX12_beginRound wsX12_flawOf := goodIn_r _ [14, 1, 15, 16, 5, 17, 18, 19, 20, 21, 22, 23, 24, 25, 26, 27, 28, 37, 38, 39, 40, 41, 42, 43, 44, 45, 46, 47, 48] (by decide +kernel) (by decide +kernel)
set_option maxRecDepth 20000 in
theorem gX12_beginRound_X12_flawOf : GoodIn wsX12_beginRound (wsV RX12 86 RX12 yX12_flawOf wsX12_flawOf) := goodIn_app (goodIn_of _ (by decide +kernel)) ggX12_beginRound_X12_flawOf
set_option maxRecDepth 20000 in
theorem ggX12_beginRound_X12_draw : GoodIn wsX12_beginRound wsX12_draw := goodIn_r _ [32, 1, 33, 34, 35, 36, 37, 38, 39, 40, 41, 42, 43, 44, 45, 46, 47, 48] (by decide +kernel) (by decide +kernel)
set_option maxRecDepth 20000 in
theorem gX12_beginRound_X12_draw : GoodIn wsX12_beginRound (wsV RX12 99 RX12 yX12_draw wsX12_draw) := goodIn_app (goodIn_of _ (by decide +kernel)) ggX12_beginRound_X12_draw
theorem dX12_beginRound_0 : decode cX12_beginRound 0 = .ok (.aload_n 0, 1) := by decide +kernel
theorem dX12_beginRound_1 : decode cX12_beginRound 1 = .ok (.getfield 7, 3) := by decide +kernel
theorem dX12_beginRound_4 : decode cX12_beginRound 4 = .ok (.iconst 4, 1) := by decide +kernel
theorem dX12_beginRound_5 : decode cX12_beginRound 5 = .ok (.iload_n 1, 1) := by decide +kernel
theorem dX12_beginRound_6 : decode cX12_beginRound 6 = .ok (.iastore, 1) := by decide +kernel
theorem dX12_beginRound_7 : decode cX12_beginRound 7 = .ok (.aload_n 0, 1) := by decide +kernel
theorem dX12_beginRound_8 : decode cX12_beginRound 8 = .ok (.getfield 7, 3) := by decide +kernel
theorem dX12_beginRound_11 : decode cX12_beginRound 11 = .ok (.iconst 3, 1) := by decide +kernel
theorem dX12_beginRound_12 : decode cX12_beginRound 12 = .ok (.iconst 1, 1) := by decide +kernel
theorem dX12_beginRound_13 : decode cX12_beginRound 13 = .ok (.iastore, 1) := by decide +kernel
theorem dX12_beginRound_14 : decode cX12_beginRound 14 = .ok (.aload_n 0, 1) := by decide +kernel
theorem dX12_beginRound_15 : decode cX12_beginRound 15 = .ok (.getfield 7, 3) := by decide +kernel
theorem dX12_beginRound_18 : decode cX12_beginRound 18 = .ok (.bipush 7, 2) := by decide +kernel
theorem dX12_beginRound_20 : decode cX12_beginRound 20 = .ok (.iconst 0, 1) := by decide +kernel
theorem dX12_beginRound_21 : decode cX12_beginRound 21 = .ok (.iastore, 1) := by decide +kernel
theorem dX12_beginRound_22 : decode cX12_beginRound 22 = .ok (.aload_n 0, 1) := by decide +kernel
theorem dX12_beginRound_23 : decode cX12_beginRound 23 = .ok (.getfield 7, 3) := by decide +kernel
theorem dX12_beginRound_26 : decode cX12_beginRound 26 = .ok (.bipush 8, 2) := by decide +kernel
theorem dX12_beginRound_28 : decode cX12_beginRound 28 = .ok (.iconst 0, 1) := by decide +kernel
theorem dX12_beginRound_29 : decode cX12_beginRound 29 = .ok (.iastore, 1) := by decide +kernel
theorem dX12_beginRound_30 : decode cX12_beginRound 30 = .ok (.aload_n 0, 1) := by decide +kernel
theorem dX12_beginRound_31 : decode cX12_beginRound 31 = .ok (.invokevirtual 28, 3) := by decide +kernel
theorem dX12_beginRound_34 : decode cX12_beginRound 34 = .ok (.iconst 0, 1) := by decide +kernel
theorem dX12_beginRound_35 : decode cX12_beginRound 35 = .ok (.istore_n 2, 1) := by decide +kernel
theorem dX12_beginRound_36 : decode cX12_beginRound 36 = .ok (.iload_n 2, 1) := by decide +kernel
theorem dX12_beginRound_37 : decode cX12_beginRound 37 = .ok (.aload_n 0, 1) := by decide +kernel
theorem dX12_beginRound_38 : decode cX12_beginRound 38 = .ok (.getfield 7, 3) := by decide +kernel
theorem dX12_beginRound_41 : decode cX12_beginRound 41 = .ok (.bipush 6, 2) := by decide +kernel
theorem dX12_beginRound_43 : decode cX12_beginRound 43 = .ok (.iaload, 1) := by decide +kernel
theorem dX12_beginRound_44 : decode cX12_beginRound 44 = .ok (.if_icmp .ge 86, 3) := by decide +kernel
theorem dX12_beginRound_47 : decode cX12_beginRound 47 = .ok (.aload_n 0, 1) := by decide +kernel
theorem dX12_beginRound_48 : decode cX12_beginRound 48 = .ok (.getfield 7, 3) := by decide +kernel
theorem dX12_beginRound_51 : decode cX12_beginRound 51 = .ok (.bipush 126, 2) := by decide +kernel
theorem dX12_beginRound_53 : decode cX12_beginRound 53 = .ok (.iload_n 2, 1) := by decide +kernel
theorem dX12_beginRound_54 : decode cX12_beginRound 54 = .ok (.iadd, 1) := by decide +kernel
theorem dX12_beginRound_55 : decode cX12_beginRound 55 = .ok (.aload_n 0, 1) := by decide +kernel
theorem dX12_beginRound_56 : decode cX12_beginRound 56 = .ok (.getfield 7, 3) := by decide +kernel
theorem dX12_beginRound_59 : decode cX12_beginRound 59 = .ok (.bipush 126, 2) := by decide +kernel
theorem dX12_beginRound_61 : decode cX12_beginRound 61 = .ok (.iload_n 2, 1) := by decide +kernel
theorem dX12_beginRound_62 : decode cX12_beginRound 62 = .ok (.iadd, 1) := by decide +kernel
theorem dX12_beginRound_63 : decode cX12_beginRound 63 = .ok (.iaload, 1) := by decide +kernel
theorem dX12_beginRound_64 : decode cX12_beginRound 64 = .ok (.iconst 1, 1) := by decide +kernel
theorem dX12_beginRound_65 : decode cX12_beginRound 65 = .ok (.if_icmp .ne 16, 3) := by decide +kernel
theorem dX12_beginRound_68 : decode cX12_beginRound 68 = .ok (.aload_n 0, 1) := by decide +kernel
theorem dX12_beginRound_69 : decode cX12_beginRound 69 = .ok (.iload_n 2, 1) := by decide +kernel
theorem dX12_beginRound_70 : decode cX12_beginRound 70 = .ok (.iload_n 1, 1) := by decide +kernel
theorem dX12_beginRound_71 : decode cX12_beginRound 71 = .ok (.invokevirtual 86, 3) := by decide +kernel
theorem dX12_beginRound_74 : decode cX12_beginRound 74 = .ok (.ifCond .ne 7, 3) := by decide +kernel
theorem dX12_beginRound_77 : decode cX12_beginRound 77 = .ok (.iconst 1, 1) := by decide +kernel
theorem dX12_beginRound_78 : decode cX12_beginRound 78 = .ok (.goto 4, 3) := by decide +kernel
theorem dX12_beginRound_81 : decode cX12_beginRound 81 = .ok (.iconst 0, 1) := by decide +kernel
theorem dX12_beginRound_82 : decode cX12_beginRound 82 = .ok (.iastore, 1) := by decide +kernel
theorem dX12_beginRound_83 : decode cX12_beginRound 83 = .ok (.aload_n 0, 1) := by decide +kernel
theorem dX12_beginRound_84 : decode cX12_beginRound 84 = .ok (.getfield 7, 3) := by decide +kernel
theorem dX12_beginRound_87 : decode cX12_beginRound 87 = .ok (.bipush 126, 2) := by decide +kernel
theorem dX12_beginRound_89 : decode cX12_beginRound 89 = .ok (.iload_n 2, 1) := by decide +kernel
theorem dX12_beginRound_90 : decode cX12_beginRound 90 = .ok (.iadd, 1) := by decide +kernel
theorem dX12_beginRound_91 : decode cX12_beginRound 91 = .ok (.iaload, 1) := by decide +kernel
theorem dX12_beginRound_92 : decode cX12_beginRound 92 = .ok (.iconst 1, 1) := by decide +kernel
theorem dX12_beginRound_93 : decode cX12_beginRound 93 = .ok (.if_icmp .ne 31, 3) := by decide +kernel
theorem dX12_beginRound_96 : decode cX12_beginRound 96 = .ok (.aload_n 0, 1) := by decide +kernel
theorem dX12_beginRound_97 : decode cX12_beginRound 97 = .ok (.getfield 7, 3) := by decide +kernel
theorem dX12_beginRound_100 : decode cX12_beginRound 100 = .ok (.sipush 462, 3) := by decide +kernel
theorem dX12_beginRound_103 : decode cX12_beginRound 103 = .ok (.aload_n 0, 1) := by decide +kernel
theorem dX12_beginRound_104 : decode cX12_beginRound 104 = .ok (.getfield 7, 3) := by decide +kernel
theorem dX12_beginRound_107 : decode cX12_beginRound 107 = .ok (.bipush 7, 2) := by decide +kernel
theorem dX12_beginRound_109 : decode cX12_beginRound 109 = .ok (.iaload, 1) := by decide +kernel
theorem dX12_beginRound_110 : decode cX12_beginRound 110 = .ok (.iadd, 1) := by decide +kernel
theorem dX12_beginRound_111 : decode cX12_beginRound 111 = .ok (.iload_n 2, 1) := by decide +kernel
theorem dX12_beginRound_112 : decode cX12_beginRound 112 = .ok (.iastore, 1) := by decide +kernel
theorem dX12_beginRound_113 : decode cX12_beginRound 113 = .ok (.aload_n 0, 1) := by decide +kernel
theorem dX12_beginRound_114 : decode cX12_beginRound 114 = .ok (.getfield 7, 3) := by decide +kernel
theorem dX12_beginRound_117 : decode cX12_beginRound 117 = .ok (.bipush 7, 2) := by decide +kernel
theorem dX12_beginRound_119 : decode cX12_beginRound 119 = .ok (.dup2, 1) := by decide +kernel
theorem dX12_beginRound_120 : decode cX12_beginRound 120 = .ok (.iaload, 1) := by decide +kernel
theorem dX12_beginRound_121 : decode cX12_beginRound 121 = .ok (.iconst 1, 1) := by decide +kernel
theorem dX12_beginRound_122 : decode cX12_beginRound 122 = .ok (.iadd, 1) := by decide +kernel
theorem dX12_beginRound_123 : decode cX12_beginRound 123 = .ok (.iastore, 1) := by decide +kernel
theorem dX12_beginRound_124 : decode cX12_beginRound 124 = .ok (.iinc 2 1, 3) := by decide +kernel
theorem dX12_beginRound_127 : decode cX12_beginRound 127 = .ok (.goto (-91), 3) := by decide +kernel
theorem dX12_beginRound_130 : decode cX12_beginRound 130 = .ok (.aload_n 0, 1) := by decide +kernel
theorem dX12_beginRound_131 : decode cX12_beginRound 131 = .ok (.getfield 7, 3) := by decide +kernel
theorem dX12_beginRound_134 : decode cX12_beginRound 134 = .ok (.iconst 3, 1) := by decide +kernel
theorem dX12_beginRound_135 : decode cX12_beginRound 135 = .ok (.aload_n 0, 1) := by decide +kernel
theorem dX12_beginRound_136 : decode cX12_beginRound 136 = .ok (.getfield 7, 3) := by decide +kernel
theorem dX12_beginRound_139 : decode cX12_beginRound 139 = .ok (.bipush 7, 2) := by decide +kernel
theorem dX12_beginRound_141 : decode cX12_beginRound 141 = .ok (.iaload, 1) := by decide +kernel
theorem dX12_beginRound_142 : decode cX12_beginRound 142 = .ok (.ifCond .ne 7, 3) := by decide +kernel
theorem dX12_beginRound_145 : decode cX12_beginRound 145 = .ok (.iconst 3, 1) := by decide +kernel
theorem dX12_beginRound_146 : decode cX12_beginRound 146 = .ok (.goto 4, 3) := by decide +kernel
theorem dX12_beginRound_149 : decode cX12_beginRound 149 = .ok (.iconst 1, 1) := by decide +kernel
theorem dX12_beginRound_150 : decode cX12_beginRound 150 = .ok (.iastore, 1) := by decide +kernel
theorem dX12_beginRound_151 : decode cX12_beginRound 151 = .ok (.aload_n 0, 1) := by decide +kernel
theorem dX12_beginRound_152 : decode cX12_beginRound 152 = .ok (.invokevirtual 99, 3) := by decide +kernel
theorem dX12_beginRound_155 : decode cX12_beginRound 155 = .ok (.return_, 1) := by decide +kernel
set_option maxRecDepth 20000 in
theorem ggX12_begin_X12_keep : GoodIn wsX12_begin wsX12_keep := goodIn_r _ [7, 8, 9, 1, 48, 49, 50, 51, 52, 53, 54, 55, 56, 57, 58, 59] (by decide +kernel) (by decide +kernel)
set_option maxRecDepth 20000 in
theorem gX12_begin_X12_keep : GoodIn wsX12_begin (wsV RX12 38 RX12 yX12_keep wsX12_keep) := goodIn_app (goodIn_of _ (by decide +kernel)) ggX12_begin_X12_keep
set_option maxRecDepth 20000 in
theorem ggX12_begin_X12_beginRound : GoodIn wsX12_begin wsX12_beginRound := goodIn_r _ [13, 1, 14, 15, 16, 6, 17, 18, 19, 20, 21, 22, 23, 24, 25, 26, 27, 28, 29, 30, 31, 32, 33, 34, 35, 36, 37, 38, 39, 40, 41, 42, 43, 44, 45, 46, 47, 48, 49, 50, 51, 52, 53, 54, 55, 56, 57, 58, 59] (by decide +kernel) (by decide +kernel)
set_option maxRecDepth 20000 in
theorem gX12_begin_X12_beginRound : GoodIn wsX12_begin (wsV RX12 102 RX12 yX12_beginRound wsX12_beginRound) := goodIn_app (goodIn_of _ (by decide +kernel)) ggX12_begin_X12_beginRound
theorem dX12_begin_0 : decode cX12_begin 0 = .ok (.aload_n 0, 1) := by decide +kernel
theorem dX12_begin_1 : decode cX12_begin 1 = .ok (.iload_n 1, 1) := by decide +kernel
theorem dX12_begin_2 : decode cX12_begin 2 = .ok (.ifCond .ge 7, 3) := by decide +kernel
theorem dX12_begin_5 : decode cX12_begin 5 = .ok (.iconst 1, 1) := by decide +kernel
theorem dX12_begin_6 : decode cX12_begin 6 = .ok (.goto 17, 3) := by decide +kernel
theorem dX12_begin_9 : decode cX12_begin 9 = .ok (.aload_n 0, 1) := by decide +kernel
theorem dX12_begin_10 : decode cX12_begin 10 = .ok (.getfield 7, 3) := by decide +kernel
theorem dX12_begin_13 : decode cX12_begin 13 = .ok (.iconst 3, 1) := by decide +kernel
theorem dX12_begin_14 : decode cX12_begin 14 = .ok (.iaload, 1) := by decide +kernel
theorem dX12_begin_15 : decode cX12_begin 15 = .ok (.ifCond .eq 7, 3) := by decide +kernel
theorem dX12_begin_18 : decode cX12_begin 18 = .ok (.iconst 2, 1) := by decide +kernel
theorem dX12_begin_19 : decode cX12_begin 19 = .ok (.goto 4, 3) := by decide +kernel
theorem dX12_begin_22 : decode cX12_begin 22 = .ok (.iconst 0, 1) := by decide +kernel
theorem dX12_begin_23 : decode cX12_begin 23 = .ok (.putfield 31, 3) := by decide +kernel
theorem dX12_begin_26 : decode cX12_begin 26 = .ok (.aload_n 0, 1) := by decide +kernel
theorem dX12_begin_27 : decode cX12_begin 27 = .ok (.getfield 31, 3) := by decide +kernel
theorem dX12_begin_30 : decode cX12_begin 30 = .ok (.ifCond .eq 5, 3) := by decide +kernel
theorem dX12_begin_33 : decode cX12_begin 33 = .ok (.iconst 0, 1) := by decide +kernel
theorem dX12_begin_34 : decode cX12_begin 34 = .ok (.ireturn, 1) := by decide +kernel
theorem dX12_begin_35 : decode cX12_begin 35 = .ok (.aload_n 0, 1) := by decide +kernel
theorem dX12_begin_36 : decode cX12_begin 36 = .ok (.invokevirtual 38, 3) := by decide +kernel
theorem dX12_begin_39 : decode cX12_begin 39 = .ok (.aload_n 0, 1) := by decide +kernel
theorem dX12_begin_40 : decode cX12_begin 40 = .ok (.getfield 7, 3) := by decide +kernel
theorem dX12_begin_43 : decode cX12_begin 43 = .ok (.bipush 11, 2) := by decide +kernel
theorem dX12_begin_45 : decode cX12_begin 45 = .ok (.iload_n 1, 1) := by decide +kernel
theorem dX12_begin_46 : decode cX12_begin 46 = .ok (.iastore, 1) := by decide +kernel
theorem dX12_begin_47 : decode cX12_begin 47 = .ok (.aload_n 0, 1) := by decide +kernel
theorem dX12_begin_48 : decode cX12_begin 48 = .ok (.iconst 0, 1) := by decide +kernel
theorem dX12_begin_49 : decode cX12_begin 49 = .ok (.invokevirtual 102, 3) := by decide +kernel
theorem dX12_begin_52 : decode cX12_begin 52 = .ok (.aload_n 0, 1) := by decide +kernel
theorem dX12_begin_53 : decode cX12_begin 53 = .ok (.getfield 7, 3) := by decide +kernel
theorem dX12_begin_56 : decode cX12_begin 56 = .ok (.bipush 7, 2) := by decide +kernel
theorem dX12_begin_58 : decode cX12_begin 58 = .ok (.iaload, 1) := by decide +kernel
theorem dX12_begin_59 : decode cX12_begin 59 = .ok (.ireturn, 1) := by decide +kernel
theorem dX12_placeOf_0 : decode cX12_placeOf 0 = .ok (.iconst 0, 1) := by decide +kernel
theorem dX12_placeOf_1 : decode cX12_placeOf 1 = .ok (.istore_n 2, 1) := by decide +kernel
theorem dX12_placeOf_2 : decode cX12_placeOf 2 = .ok (.iload_n 2, 1) := by decide +kernel
theorem dX12_placeOf_3 : decode cX12_placeOf 3 = .ok (.aload_n 0, 1) := by decide +kernel
theorem dX12_placeOf_4 : decode cX12_placeOf 4 = .ok (.getfield 7, 3) := by decide +kernel
theorem dX12_placeOf_7 : decode cX12_placeOf 7 = .ok (.bipush 7, 2) := by decide +kernel
theorem dX12_placeOf_9 : decode cX12_placeOf 9 = .ok (.iaload, 1) := by decide +kernel
theorem dX12_placeOf_10 : decode cX12_placeOf 10 = .ok (.if_icmp .ge 25, 3) := by decide +kernel
theorem dX12_placeOf_13 : decode cX12_placeOf 13 = .ok (.aload_n 0, 1) := by decide +kernel
theorem dX12_placeOf_14 : decode cX12_placeOf 14 = .ok (.getfield 7, 3) := by decide +kernel
theorem dX12_placeOf_17 : decode cX12_placeOf 17 = .ok (.sipush 462, 3) := by decide +kernel
theorem dX12_placeOf_20 : decode cX12_placeOf 20 = .ok (.iload_n 2, 1) := by decide +kernel
theorem dX12_placeOf_21 : decode cX12_placeOf 21 = .ok (.iadd, 1) := by decide +kernel
theorem dX12_placeOf_22 : decode cX12_placeOf 22 = .ok (.iaload, 1) := by decide +kernel
theorem dX12_placeOf_23 : decode cX12_placeOf 23 = .ok (.iload_n 1, 1) := by decide +kernel
theorem dX12_placeOf_24 : decode cX12_placeOf 24 = .ok (.if_icmp .ne 5, 3) := by decide +kernel
theorem dX12_placeOf_27 : decode cX12_placeOf 27 = .ok (.iload_n 2, 1) := by decide +kernel
theorem dX12_placeOf_28 : decode cX12_placeOf 28 = .ok (.ireturn, 1) := by decide +kernel
theorem dX12_placeOf_29 : decode cX12_placeOf 29 = .ok (.iinc 2 1, 3) := by decide +kernel
theorem dX12_placeOf_32 : decode cX12_placeOf 32 = .ok (.goto (-30), 3) := by decide +kernel
theorem dX12_placeOf_35 : decode cX12_placeOf 35 = .ok (.iconst (-1), 1) := by decide +kernel
theorem dX12_placeOf_36 : decode cX12_placeOf 36 = .ok (.ireturn, 1) := by decide +kernel
set_option maxRecDepth 20000 in
theorem ggX12_hasPlayed_X12_placeOf : GoodIn wsX12_hasPlayed wsX12_placeOf := goodIn_r _ [6, 1, 10, 11, 12, 13, 14, 15, 16, 17, 18, 19, 20, 21] (by decide +kernel) (by decide +kernel)
set_option maxRecDepth 20000 in
theorem gX12_hasPlayed_X12_placeOf : GoodIn wsX12_hasPlayed (wsV RX12 106 RX12 yX12_placeOf wsX12_placeOf) := goodIn_app (goodIn_of _ (by decide +kernel)) ggX12_hasPlayed_X12_placeOf
set_option maxRecDepth 20000 in
theorem ggX12_hasPlayed_X12_in : GoodIn wsX12_hasPlayed wsX12_in := goodIn_r _ [9] (by decide +kernel) (by decide +kernel)
set_option maxRecDepth 20000 in
theorem gX12_hasPlayed_X12_in : GoodIn wsX12_hasPlayed (va_wsS RX12 41 yX12_in wsX12_in) := goodIn_app (goodIn_of _ (by decide +kernel)) ggX12_hasPlayed_X12_in
theorem dX12_hasPlayed_0 : decode cX12_hasPlayed 0 = .ok (.aload_n 0, 1) := by decide +kernel
theorem dX12_hasPlayed_1 : decode cX12_hasPlayed 1 = .ok (.iload_n 1, 1) := by decide +kernel
theorem dX12_hasPlayed_2 : decode cX12_hasPlayed 2 = .ok (.invokevirtual 106, 3) := by decide +kernel
theorem dX12_hasPlayed_5 : decode cX12_hasPlayed 5 = .ok (.iconst 0, 1) := by decide +kernel
theorem dX12_hasPlayed_6 : decode cX12_hasPlayed 6 = .ok (.aload_n 0, 1) := by decide +kernel
theorem dX12_hasPlayed_7 : decode cX12_hasPlayed 7 = .ok (.getfield 7, 3) := by decide +kernel
theorem dX12_hasPlayed_10 : decode cX12_hasPlayed 10 = .ok (.bipush 8, 2) := by decide +kernel
theorem dX12_hasPlayed_12 : decode cX12_hasPlayed 12 = .ok (.iaload, 1) := by decide +kernel
theorem dX12_hasPlayed_13 : decode cX12_hasPlayed 13 = .ok (.iconst 1, 1) := by decide +kernel
theorem dX12_hasPlayed_14 : decode cX12_hasPlayed 14 = .ok (.isub, 1) := by decide +kernel
theorem dX12_hasPlayed_15 : decode cX12_hasPlayed 15 = .ok (.invokestatic 41, 3) := by decide +kernel
theorem dX12_hasPlayed_18 : decode cX12_hasPlayed 18 = .ok (.ireturn, 1) := by decide +kernel
set_option maxRecDepth 20000 in
theorem ggX12_play_X12_in : GoodIn wsX12_play wsX12_in := goodIn_r _ [6] (by decide +kernel) (by decide +kernel)
set_option maxRecDepth 20000 in
theorem gX12_play_X12_in : GoodIn wsX12_play (va_wsS RX12 41 yX12_in wsX12_in) := goodIn_app (goodIn_of _ (by decide +kernel)) ggX12_play_X12_in
set_option maxRecDepth 20000 in
theorem ggX12_play_X12_keep : GoodIn wsX12_play wsX12_keep := goodIn_r _ [10, 11, 12, 1, 13, 14, 15, 16, 17, 18, 19, 20, 21, 22, 23, 24] (by decide +kernel) (by decide +kernel)
set_option maxRecDepth 20000 in
theorem gX12_play_X12_keep : GoodIn wsX12_play (wsV RX12 38 RX12 yX12_keep wsX12_keep) := goodIn_app (goodIn_of _ (by decide +kernel)) ggX12_play_X12_keep
theorem dX12_play_0 : decode cX12_play 0 = .ok (.aload_n 0, 1) := by decide +kernel
theorem dX12_play_1 : decode cX12_play 1 = .ok (.iload_n 1, 1) := by decide +kernel
theorem dX12_play_2 : decode cX12_play 2 = .ok (.iconst 0, 1) := by decide +kernel
theorem dX12_play_3 : decode cX12_play 3 = .ok (.bipush 20, 2) := by decide +kernel
theorem dX12_play_5 : decode cX12_play 5 = .ok (.invokestatic 41, 3) := by decide +kernel
theorem dX12_play_8 : decode cX12_play 8 = .ok (.ifCond .ne 7, 3) := by decide +kernel
theorem dX12_play_11 : decode cX12_play 11 = .ok (.iconst 1, 1) := by decide +kernel
theorem dX12_play_12 : decode cX12_play 12 = .ok (.goto 35, 3) := by decide +kernel
theorem dX12_play_15 : decode cX12_play 15 = .ok (.aload_n 0, 1) := by decide +kernel
theorem dX12_play_16 : decode cX12_play 16 = .ok (.getfield 7, 3) := by decide +kernel
theorem dX12_play_19 : decode cX12_play 19 = .ok (.iconst 3, 1) := by decide +kernel
theorem dX12_play_20 : decode cX12_play 20 = .ok (.iaload, 1) := by decide +kernel
theorem dX12_play_21 : decode cX12_play 21 = .ok (.iconst 1, 1) := by decide +kernel
theorem dX12_play_22 : decode cX12_play 22 = .ok (.if_icmp .ne 20, 3) := by decide +kernel
theorem dX12_play_25 : decode cX12_play 25 = .ok (.aload_n 0, 1) := by decide +kernel
theorem dX12_play_26 : decode cX12_play 26 = .ok (.getfield 7, 3) := by decide +kernel
theorem dX12_play_29 : decode cX12_play 29 = .ok (.bipush 8, 2) := by decide +kernel
theorem dX12_play_31 : decode cX12_play 31 = .ok (.iaload, 1) := by decide +kernel
theorem dX12_play_32 : decode cX12_play 32 = .ok (.aload_n 0, 1) := by decide +kernel
theorem dX12_play_33 : decode cX12_play 33 = .ok (.getfield 7, 3) := by decide +kernel
theorem dX12_play_36 : decode cX12_play 36 = .ok (.bipush 7, 2) := by decide +kernel
theorem dX12_play_38 : decode cX12_play 38 = .ok (.iaload, 1) := by decide +kernel
theorem dX12_play_39 : decode cX12_play 39 = .ok (.if_icmp .ne 7, 3) := by decide +kernel
theorem dX12_play_42 : decode cX12_play 42 = .ok (.iconst 2, 1) := by decide +kernel
theorem dX12_play_43 : decode cX12_play 43 = .ok (.goto 4, 3) := by decide +kernel
theorem dX12_play_46 : decode cX12_play 46 = .ok (.iconst 0, 1) := by decide +kernel
theorem dX12_play_47 : decode cX12_play 47 = .ok (.putfield 31, 3) := by decide +kernel
theorem dX12_play_50 : decode cX12_play 50 = .ok (.aload_n 0, 1) := by decide +kernel
theorem dX12_play_51 : decode cX12_play 51 = .ok (.getfield 31, 3) := by decide +kernel
theorem dX12_play_54 : decode cX12_play 54 = .ok (.ifCond .eq 5, 3) := by decide +kernel
theorem dX12_play_57 : decode cX12_play 57 = .ok (.iconst 0, 1) := by decide +kernel
theorem dX12_play_58 : decode cX12_play 58 = .ok (.ireturn, 1) := by decide +kernel
theorem dX12_play_59 : decode cX12_play 59 = .ok (.aload_n 0, 1) := by decide +kernel
theorem dX12_play_60 : decode cX12_play 60 = .ok (.invokevirtual 38, 3) := by decide +kernel
theorem dX12_play_63 : decode cX12_play 63 = .ok (.aload_n 0, 1) := by decide +kernel
theorem dX12_play_64 : decode cX12_play 64 = .ok (.getfield 7, 3) := by decide +kernel
theorem dX12_play_67 : decode cX12_play 67 = .ok (.sipush 462, 3) := by decide +kernel
theorem dX12_play_70 : decode cX12_play 70 = .ok (.aload_n 0, 1) := by decide +kernel
theorem dX12_play_71 : decode cX12_play 71 = .ok (.getfield 7, 3) := by decide +kernel
theorem dX12_play_74 : decode cX12_play 74 = .ok (.bipush 8, 2) := by decide +kernel
theorem dX12_play_76 : decode cX12_play 76 = .ok (.iaload, 1) := by decide +kernel
theorem dX12_play_77 : decode cX12_play 77 = .ok (.iadd, 1) := by decide +kernel
theorem dX12_play_78 : decode cX12_play 78 = .ok (.iaload, 1) := by decide +kernel
theorem dX12_play_79 : decode cX12_play 79 = .ok (.istore_n 2, 1) := by decide +kernel
theorem dX12_play_80 : decode cX12_play 80 = .ok (.aload_n 0, 1) := by decide +kernel
theorem dX12_play_81 : decode cX12_play 81 = .ok (.getfield 7, 3) := by decide +kernel
theorem dX12_play_84 : decode cX12_play 84 = .ok (.sipush 474, 3) := by decide +kernel
theorem dX12_play_87 : decode cX12_play 87 = .ok (.iload_n 2, 1) := by decide +kernel
theorem dX12_play_88 : decode cX12_play 88 = .ok (.iadd, 1) := by decide +kernel
theorem dX12_play_89 : decode cX12_play 89 = .ok (.iload_n 1, 1) := by decide +kernel
theorem dX12_play_90 : decode cX12_play 90 = .ok (.iastore, 1) := by decide +kernel
theorem dX12_play_91 : decode cX12_play 91 = .ok (.aload_n 0, 1) := by decide +kernel
theorem dX12_play_92 : decode cX12_play 92 = .ok (.getfield 7, 3) := by decide +kernel
theorem dX12_play_95 : decode cX12_play 95 = .ok (.bipush 8, 2) := by decide +kernel
theorem dX12_play_97 : decode cX12_play 97 = .ok (.dup2, 1) := by decide +kernel
theorem dX12_play_98 : decode cX12_play 98 = .ok (.iaload, 1) := by decide +kernel
theorem dX12_play_99 : decode cX12_play 99 = .ok (.iconst 1, 1) := by decide +kernel
theorem dX12_play_100 : decode cX12_play 100 = .ok (.iadd, 1) := by decide +kernel
theorem dX12_play_101 : decode cX12_play 101 = .ok (.iastore, 1) := by decide +kernel
theorem dX12_play_102 : decode cX12_play 102 = .ok (.iload_n 2, 1) := by decide +kernel
theorem dX12_play_103 : decode cX12_play 103 = .ok (.ireturn, 1) := by decide +kernel
set_option maxRecDepth 20000 in
theorem ggX12_counts_X12_seat : GoodIn wsX12_counts wsX12_seat := goodIn_r _ [5] (by decide +kernel) (by decide +kernel)
set_option maxRecDepth 20000 in
theorem gX12_counts_X12_seat : GoodIn wsX12_counts (va_wsS RX12 45 yX12_seat wsX12_seat) := goodIn_app (goodIn_of _ (by decide +kernel)) ggX12_counts_X12_seat
set_option maxRecDepth 20000 in
theorem ggX12_counts_X12_isBarred : GoodIn wsX12_counts wsX12_isBarred := goodIn_r _ [9, 1, 2, 3, 4, 5, 10, 11, 12, 13, 14, 15, 16, 17, 18, 19, 20, 21] (by decide +kernel) (by decide +kernel)
set_option maxRecDepth 20000 in
theorem gX12_counts_X12_isBarred : GoodIn wsX12_counts (wsV RX12 110 RX12 yX12_isBarred wsX12_isBarred) := goodIn_app (goodIn_of _ (by decide +kernel)) ggX12_counts_X12_isBarred
theorem dX12_counts_0 : decode cX12_counts 0 = .ok (.aload_n 0, 1) := by decide +kernel
theorem dX12_counts_1 : decode cX12_counts 1 = .ok (.getfield 7, 3) := by decide +kernel
theorem dX12_counts_4 : decode cX12_counts 4 = .ok (.iload_n 1, 1) := by decide +kernel
theorem dX12_counts_5 : decode cX12_counts 5 = .ok (.iload_n 2, 1) := by decide +kernel
theorem dX12_counts_6 : decode cX12_counts 6 = .ok (.iload_n 3, 1) := by decide +kernel
theorem dX12_counts_7 : decode cX12_counts 7 = .ok (.invokestatic 45, 3) := by decide +kernel
theorem dX12_counts_10 : decode cX12_counts 10 = .ok (.iadd, 1) := by decide +kernel
theorem dX12_counts_11 : decode cX12_counts 11 = .ok (.iaload, 1) := by decide +kernel
theorem dX12_counts_12 : decode cX12_counts 12 = .ok (.ifCond .lt 16, 3) := by decide +kernel
theorem dX12_counts_15 : decode cX12_counts 15 = .ok (.aload_n 0, 1) := by decide +kernel
theorem dX12_counts_16 : decode cX12_counts 16 = .ok (.iload_n 2, 1) := by decide +kernel
theorem dX12_counts_17 : decode cX12_counts 17 = .ok (.iload_n 3, 1) := by decide +kernel
theorem dX12_counts_18 : decode cX12_counts 18 = .ok (.invokevirtual 110, 3) := by decide +kernel
theorem dX12_counts_21 : decode cX12_counts 21 = .ok (.ifCond .ne 7, 3) := by decide +kernel
theorem dX12_counts_24 : decode cX12_counts 24 = .ok (.iconst 1, 1) := by decide +kernel
theorem dX12_counts_25 : decode cX12_counts 25 = .ok (.goto 4, 3) := by decide +kernel
theorem dX12_counts_28 : decode cX12_counts 28 = .ok (.iconst 0, 1) := by decide +kernel
theorem dX12_counts_29 : decode cX12_counts 29 = .ok (.ireturn, 1) := by decide +kernel
set_option maxRecDepth 20000 in
theorem ggX12_counting_X12_counts : GoodIn wsX12_counting wsX12_counts := goodIn_r _ [6, 1, 7, 8, 5, 9, 10, 11, 12, 13, 14, 15, 16, 17, 18, 19, 20, 21, 22, 23, 24, 25] (by decide +kernel) (by decide +kernel)
set_option maxRecDepth 20000 in
theorem gX12_counting_X12_counts : GoodIn wsX12_counting (wsV RX12 113 RX12 yX12_counts wsX12_counts) := goodIn_app (goodIn_of _ (by decide +kernel)) ggX12_counting_X12_counts
theorem dX12_counting_0 : decode cX12_counting 0 = .ok (.iconst 0, 1) := by decide +kernel
theorem dX12_counting_1 : decode cX12_counting 1 = .ok (.istore_n 3, 1) := by decide +kernel
theorem dX12_counting_2 : decode cX12_counting 2 = .ok (.iconst 0, 1) := by decide +kernel
theorem dX12_counting_3 : decode cX12_counting 3 = .ok (.istore 4, 2) := by decide +kernel
theorem dX12_counting_5 : decode cX12_counting 5 = .ok (.iload 4, 2) := by decide +kernel
theorem dX12_counting_7 : decode cX12_counting 7 = .ok (.aload_n 0, 1) := by decide +kernel
theorem dX12_counting_8 : decode cX12_counting 8 = .ok (.getfield 7, 3) := by decide +kernel
theorem dX12_counting_11 : decode cX12_counting 11 = .ok (.iconst 0, 1) := by decide +kernel
theorem dX12_counting_12 : decode cX12_counting 12 = .ok (.iaload, 1) := by decide +kernel
theorem dX12_counting_13 : decode cX12_counting 13 = .ok (.if_icmp .ge 28, 3) := by decide +kernel
theorem dX12_counting_16 : decode cX12_counting 16 = .ok (.iload_n 3, 1) := by decide +kernel
theorem dX12_counting_17 : decode cX12_counting 17 = .ok (.aload_n 0, 1) := by decide +kernel
theorem dX12_counting_18 : decode cX12_counting 18 = .ok (.iload_n 1, 1) := by decide +kernel
theorem dX12_counting_19 : decode cX12_counting 19 = .ok (.iload 4, 2) := by decide +kernel
theorem dX12_counting_21 : decode cX12_counting 21 = .ok (.iload_n 2, 1) := by decide +kernel
theorem dX12_counting_22 : decode cX12_counting 22 = .ok (.invokevirtual 113, 3) := by decide +kernel
theorem dX12_counting_25 : decode cX12_counting 25 = .ok (.ifCond .eq 7, 3) := by decide +kernel
theorem dX12_counting_28 : decode cX12_counting 28 = .ok (.iconst 1, 1) := by decide +kernel
theorem dX12_counting_29 : decode cX12_counting 29 = .ok (.goto 4, 3) := by decide +kernel
theorem dX12_counting_32 : decode cX12_counting 32 = .ok (.iconst 0, 1) := by decide +kernel
theorem dX12_counting_33 : decode cX12_counting 33 = .ok (.iadd, 1) := by decide +kernel
theorem dX12_counting_34 : decode cX12_counting 34 = .ok (.istore_n 3, 1) := by decide +kernel
theorem dX12_counting_35 : decode cX12_counting 35 = .ok (.iinc 4 1, 3) := by decide +kernel
theorem dX12_counting_38 : decode cX12_counting 38 = .ok (.goto (-33), 3) := by decide +kernel
theorem dX12_counting_41 : decode cX12_counting 41 = .ok (.iload_n 3, 1) := by decide +kernel
theorem dX12_counting_42 : decode cX12_counting 42 = .ok (.ireturn, 1) := by decide +kernel
set_option maxRecDepth 20000 in
theorem ggX12_mean_X12_counts : GoodIn wsX12_mean wsX12_counts := goodIn_r _ [6, 1, 7, 8, 5, 9, 10, 11, 12, 13, 14, 15, 16, 17, 18, 19, 20, 21, 22, 23, 24, 25] (by decide +kernel) (by decide +kernel)
set_option maxRecDepth 20000 in
theorem gX12_mean_X12_counts : GoodIn wsX12_mean (wsV RX12 113 RX12 yX12_counts wsX12_counts) := goodIn_app (goodIn_of _ (by decide +kernel)) ggX12_mean_X12_counts
set_option maxRecDepth 20000 in
theorem ggX12_mean_X12_seat : GoodIn wsX12_mean wsX12_seat := goodIn_r _ [9] (by decide +kernel) (by decide +kernel)
set_option maxRecDepth 20000 in
theorem gX12_mean_X12_seat : GoodIn wsX12_mean (va_wsS RX12 45 yX12_seat wsX12_seat) := goodIn_app (goodIn_of _ (by decide +kernel)) ggX12_mean_X12_seat
theorem dX12_mean_0 : decode cX12_mean 0 = .ok (.iconst 0, 1) := by decide +kernel
theorem dX12_mean_1 : decode cX12_mean 1 = .ok (.istore 4, 2) := by decide +kernel
theorem dX12_mean_3 : decode cX12_mean 3 = .ok (.iconst 0, 1) := by decide +kernel
theorem dX12_mean_4 : decode cX12_mean 4 = .ok (.istore 5, 2) := by decide +kernel
theorem dX12_mean_6 : decode cX12_mean 6 = .ok (.bipush 100, 2) := by decide +kernel
theorem dX12_mean_8 : decode cX12_mean 8 = .ok (.istore 6, 2) := by decide +kernel
theorem dX12_mean_10 : decode cX12_mean 10 = .ok (.iconst 0, 1) := by decide +kernel
theorem dX12_mean_11 : decode cX12_mean 11 = .ok (.istore 7, 2) := by decide +kernel
theorem dX12_mean_13 : decode cX12_mean 13 = .ok (.iconst 0, 1) := by decide +kernel
theorem dX12_mean_14 : decode cX12_mean 14 = .ok (.istore 8, 2) := by decide +kernel
theorem dX12_mean_16 : decode cX12_mean 16 = .ok (.iload 8, 2) := by decide +kernel
theorem dX12_mean_18 : decode cX12_mean 18 = .ok (.aload_n 0, 1) := by decide +kernel
theorem dX12_mean_19 : decode cX12_mean 19 = .ok (.getfield 7, 3) := by decide +kernel
theorem dX12_mean_22 : decode cX12_mean 22 = .ok (.iconst 0, 1) := by decide +kernel
theorem dX12_mean_23 : decode cX12_mean 23 = .ok (.iaload, 1) := by decide +kernel
theorem dX12_mean_24 : decode cX12_mean 24 = .ok (.if_icmp .ge 83, 3) := by decide +kernel
theorem dX12_mean_27 : decode cX12_mean 27 = .ok (.iload 8, 2) := by decide +kernel
theorem dX12_mean_29 : decode cX12_mean 29 = .ok (.iload_n 3, 1) := by decide +kernel
theorem dX12_mean_30 : decode cX12_mean 30 = .ok (.if_icmp .eq 71, 3) := by decide +kernel
theorem dX12_mean_33 : decode cX12_mean 33 = .ok (.aload_n 0, 1) := by decide +kernel
theorem dX12_mean_34 : decode cX12_mean 34 = .ok (.iload_n 1, 1) := by decide +kernel
theorem dX12_mean_35 : decode cX12_mean 35 = .ok (.iload 8, 2) := by decide +kernel
theorem dX12_mean_37 : decode cX12_mean 37 = .ok (.iload_n 2, 1) := by decide +kernel
theorem dX12_mean_38 : decode cX12_mean 38 = .ok (.invokevirtual 113, 3) := by decide +kernel
theorem dX12_mean_41 : decode cX12_mean 41 = .ok (.ifCond .eq 60, 3) := by decide +kernel
theorem dX12_mean_44 : decode cX12_mean 44 = .ok (.aload_n 0, 1) := by decide +kernel
theorem dX12_mean_45 : decode cX12_mean 45 = .ok (.getfield 7, 3) := by decide +kernel
theorem dX12_mean_48 : decode cX12_mean 48 = .ok (.iload_n 1, 1) := by decide +kernel
theorem dX12_mean_49 : decode cX12_mean 49 = .ok (.iload 8, 2) := by decide +kernel
theorem dX12_mean_51 : decode cX12_mean 51 = .ok (.iload_n 2, 1) := by decide +kernel
theorem dX12_mean_52 : decode cX12_mean 52 = .ok (.invokestatic 45, 3) := by decide +kernel
theorem dX12_mean_55 : decode cX12_mean 55 = .ok (.iadd, 1) := by decide +kernel
theorem dX12_mean_56 : decode cX12_mean 56 = .ok (.iaload, 1) := by decide +kernel
theorem dX12_mean_57 : decode cX12_mean 57 = .ok (.istore 9, 2) := by decide +kernel
theorem dX12_mean_59 : decode cX12_mean 59 = .ok (.iinc 4 1, 3) := by decide +kernel
theorem dX12_mean_62 : decode cX12_mean 62 = .ok (.iload 5, 2) := by decide +kernel
theorem dX12_mean_64 : decode cX12_mean 64 = .ok (.iload 9, 2) := by decide +kernel
theorem dX12_mean_66 : decode cX12_mean 66 = .ok (.iadd, 1) := by decide +kernel
theorem dX12_mean_67 : decode cX12_mean 67 = .ok (.istore 5, 2) := by decide +kernel
theorem dX12_mean_69 : decode cX12_mean 69 = .ok (.iload 9, 2) := by decide +kernel
theorem dX12_mean_71 : decode cX12_mean 71 = .ok (.iload 6, 2) := by decide +kernel
theorem dX12_mean_73 : decode cX12_mean 73 = .ok (.if_icmp .ge 8, 3) := by decide +kernel
theorem dX12_mean_76 : decode cX12_mean 76 = .ok (.iload 9, 2) := by decide +kernel
theorem dX12_mean_78 : decode cX12_mean 78 = .ok (.goto 5, 3) := by decide +kernel
theorem dX12_mean_81 : decode cX12_mean 81 = .ok (.iload 6, 2) := by decide +kernel
theorem dX12_mean_83 : decode cX12_mean 83 = .ok (.istore 6, 2) := by decide +kernel
theorem dX12_mean_85 : decode cX12_mean 85 = .ok (.iload 9, 2) := by decide +kernel
theorem dX12_mean_87 : decode cX12_mean 87 = .ok (.iload 7, 2) := by decide +kernel
theorem dX12_mean_89 : decode cX12_mean 89 = .ok (.if_icmp .le 8, 3) := by decide +kernel
theorem dX12_mean_92 : decode cX12_mean 92 = .ok (.iload 9, 2) := by decide +kernel
theorem dX12_mean_94 : decode cX12_mean 94 = .ok (.goto 5, 3) := by decide +kernel
theorem dX12_mean_97 : decode cX12_mean 97 = .ok (.iload 7, 2) := by decide +kernel
theorem dX12_mean_99 : decode cX12_mean 99 = .ok (.istore 7, 2) := by decide +kernel
theorem dX12_mean_101 : decode cX12_mean 101 = .ok (.iinc 8 1, 3) := by decide +kernel
theorem dX12_mean_104 : decode cX12_mean 104 = .ok (.goto (-88), 3) := by decide +kernel
theorem dX12_mean_107 : decode cX12_mean 107 = .ok (.iload 4, 2) := by decide +kernel
theorem dX12_mean_109 : decode cX12_mean 109 = .ok (.ifCond .ne 5, 3) := by decide +kernel
theorem dX12_mean_112 : decode cX12_mean 112 = .ok (.iconst (-1), 1) := by decide +kernel
theorem dX12_mean_113 : decode cX12_mean 113 = .ok (.ireturn, 1) := by decide +kernel
theorem dX12_mean_114 : decode cX12_mean 114 = .ok (.iload 4, 2) := by decide +kernel
theorem dX12_mean_116 : decode cX12_mean 116 = .ok (.iconst 4, 1) := by decide +kernel
theorem dX12_mean_117 : decode cX12_mean 117 = .ok (.if_icmp .ge 15, 3) := by decide +kernel
theorem dX12_mean_120 : decode cX12_mean 120 = .ok (.sipush 1000, 3) := by decide +kernel
theorem dX12_mean_123 : decode cX12_mean 123 = .ok (.iload 5, 2) := by decide +kernel
theorem dX12_mean_125 : decode cX12_mean 125 = .ok (.imul, 1) := by decide +kernel
theorem dX12_mean_126 : decode cX12_mean 126 = .ok (.iload 4, 2) := by decide +kernel
theorem dX12_mean_128 : decode cX12_mean 128 = .ok (.idiv, 1) := by decide +kernel
theorem dX12_mean_129 : decode cX12_mean 129 = .ok (.goto 20, 3) := by decide +kernel
theorem dX12_mean_132 : decode cX12_mean 132 = .ok (.sipush 1000, 3) := by decide +kernel
theorem dX12_mean_135 : decode cX12_mean 135 = .ok (.iload 5, 2) := by decide +kernel
theorem dX12_mean_137 : decode cX12_mean 137 = .ok (.iload 6, 2) := by decide +kernel
theorem dX12_mean_139 : decode cX12_mean 139 = .ok (.isub, 1) := by decide +kernel
theorem dX12_mean_140 : decode cX12_mean 140 = .ok (.iload 7, 2) := by decide +kernel
theorem dX12_mean_142 : decode cX12_mean 142 = .ok (.isub, 1) := by decide +kernel
theorem dX12_mean_143 : decode cX12_mean 143 = .ok (.imul, 1) := by decide +kernel
theorem dX12_mean_144 : decode cX12_mean 144 = .ok (.iload 4, 2) := by decide +kernel
theorem dX12_mean_146 : decode cX12_mean 146 = .ok (.iconst 2, 1) := by decide +kernel
theorem dX12_mean_147 : decode cX12_mean 147 = .ok (.isub, 1) := by decide +kernel
theorem dX12_mean_148 : decode cX12_mean 148 = .ok (.idiv, 1) := by decide +kernel
theorem dX12_mean_149 : decode cX12_mean 149 = .ok (.ireturn, 1) := by decide +kernel
set_option maxRecDepth 20000 in
theorem ggX12_scoreOf_X12_mean : GoodIn wsX12_scoreOf wsX12_mean := goodIn_r _ [6, 1, 7, 8, 9, 5, 10, 11, 12, 13, 14, 15, 16, 17, 29, 30, 31, 32, 33, 34, 35, 36, 37, 38, 39, 40] (by decide +kernel) (by decide +kernel)
set_option maxRecDepth 20000 in
theorem gX12_scoreOf_X12_mean : GoodIn wsX12_scoreOf (wsV RX12 116 RX12 yX12_mean wsX12_mean) := goodIn_app (goodIn_of _ (by decide +kernel)) ggX12_scoreOf_X12_mean
set_option maxRecDepth 20000 in
theorem ggX12_scoreOf_X12_hasPlayed : GoodIn wsX12_scoreOf wsX12_hasPlayed := goodIn_r _ [21, 1, 22, 23, 24, 5, 25, 26, 27, 28, 29, 30, 31, 32, 33, 34, 35, 36, 37, 38, 39, 40] (by decide +kernel) (by decide +kernel)
set_option maxRecDepth 20000 in
theorem gX12_scoreOf_X12_hasPlayed : GoodIn wsX12_scoreOf (wsV RX12 119 RX12 yX12_hasPlayed wsX12_hasPlayed) := goodIn_app (goodIn_of _ (by decide +kernel)) ggX12_scoreOf_X12_hasPlayed
theorem dX12_scoreOf_0 : decode cX12_scoreOf 0 = .ok (.aload_n 0, 1) := by decide +kernel
theorem dX12_scoreOf_1 : decode cX12_scoreOf 1 = .ok (.sipush 486, 3) := by decide +kernel
theorem dX12_scoreOf_4 : decode cX12_scoreOf 4 = .ok (.iload_n 1, 1) := by decide +kernel
theorem dX12_scoreOf_5 : decode cX12_scoreOf 5 = .ok (.iconst (-1), 1) := by decide +kernel
theorem dX12_scoreOf_6 : decode cX12_scoreOf 6 = .ok (.invokevirtual 116, 3) := by decide +kernel
theorem dX12_scoreOf_9 : decode cX12_scoreOf 9 = .ok (.istore_n 2, 1) := by decide +kernel
theorem dX12_scoreOf_10 : decode cX12_scoreOf 10 = .ok (.iload_n 2, 1) := by decide +kernel
theorem dX12_scoreOf_11 : decode cX12_scoreOf 11 = .ok (.iconst (-1), 1) := by decide +kernel
theorem dX12_scoreOf_12 : decode cX12_scoreOf 12 = .ok (.if_icmp .eq 11, 3) := by decide +kernel
theorem dX12_scoreOf_15 : decode cX12_scoreOf 15 = .ok (.aload_n 0, 1) := by decide +kernel
theorem dX12_scoreOf_16 : decode cX12_scoreOf 16 = .ok (.iload_n 1, 1) := by decide +kernel
theorem dX12_scoreOf_17 : decode cX12_scoreOf 17 = .ok (.invokevirtual 119, 3) := by decide +kernel
theorem dX12_scoreOf_20 : decode cX12_scoreOf 20 = .ok (.ifCond .ne 5, 3) := by decide +kernel
theorem dX12_scoreOf_23 : decode cX12_scoreOf 23 = .ok (.iconst (-1), 1) := by decide +kernel
theorem dX12_scoreOf_24 : decode cX12_scoreOf 24 = .ok (.ireturn, 1) := by decide +kernel
theorem dX12_scoreOf_25 : decode cX12_scoreOf 25 = .ok (.iload_n 2, 1) := by decide +kernel
theorem dX12_scoreOf_26 : decode cX12_scoreOf 26 = .ok (.bipush 10, 2) := by decide +kernel
theorem dX12_scoreOf_28 : decode cX12_scoreOf 28 = .ok (.aload_n 0, 1) := by decide +kernel
theorem dX12_scoreOf_29 : decode cX12_scoreOf 29 = .ok (.getfield 7, 3) := by decide +kernel
theorem dX12_scoreOf_32 : decode cX12_scoreOf 32 = .ok (.iconst 2, 1) := by decide +kernel
theorem dX12_scoreOf_33 : decode cX12_scoreOf 33 = .ok (.iaload, 1) := by decide +kernel
theorem dX12_scoreOf_34 : decode cX12_scoreOf 34 = .ok (.imul, 1) := by decide +kernel
theorem dX12_scoreOf_35 : decode cX12_scoreOf 35 = .ok (.aload_n 0, 1) := by decide +kernel
theorem dX12_scoreOf_36 : decode cX12_scoreOf 36 = .ok (.getfield 7, 3) := by decide +kernel
theorem dX12_scoreOf_39 : decode cX12_scoreOf 39 = .ok (.sipush 474, 3) := by decide +kernel
theorem dX12_scoreOf_42 : decode cX12_scoreOf 42 = .ok (.iload_n 1, 1) := by decide +kernel
theorem dX12_scoreOf_43 : decode cX12_scoreOf 43 = .ok (.iadd, 1) := by decide +kernel
theorem dX12_scoreOf_44 : decode cX12_scoreOf 44 = .ok (.iaload, 1) := by decide +kernel
theorem dX12_scoreOf_45 : decode cX12_scoreOf 45 = .ok (.imul, 1) := by decide +kernel
theorem dX12_scoreOf_46 : decode cX12_scoreOf 46 = .ok (.isub, 1) := by decide +kernel
theorem dX12_scoreOf_47 : decode cX12_scoreOf 47 = .ok (.istore_n 3, 1) := by decide +kernel
theorem dX12_scoreOf_48 : decode cX12_scoreOf 48 = .ok (.iload_n 3, 1) := by decide +kernel
theorem dX12_scoreOf_49 : decode cX12_scoreOf 49 = .ok (.ifCond .ge 7, 3) := by decide +kernel
theorem dX12_scoreOf_52 : decode cX12_scoreOf 52 = .ok (.iconst 0, 1) := by decide +kernel
theorem dX12_scoreOf_53 : decode cX12_scoreOf 53 = .ok (.goto 4, 3) := by decide +kernel
theorem dX12_scoreOf_56 : decode cX12_scoreOf 56 = .ok (.iload_n 3, 1) := by decide +kernel
theorem dX12_scoreOf_57 : decode cX12_scoreOf 57 = .ok (.ireturn, 1) := by decide +kernel
set_option maxRecDepth 20000 in
theorem ggX12_isMarked_X12_counting : GoodIn wsX12_isMarked wsX12_counting := goodIn_r _ [6, 1, 7, 8, 9, 5, 10, 11, 12, 13, 14, 15, 16, 17, 18, 19, 20, 21, 22, 23, 24, 25, 26, 27, 28, 29] (by decide +kernel) (by decide +kernel)
set_option maxRecDepth 20000 in
theorem gX12_isMarked_X12_counting : GoodIn wsX12_isMarked (wsV RX12 122 RX12 yX12_counting wsX12_counting) := goodIn_app (goodIn_of _ (by decide +kernel)) ggX12_isMarked_X12_counting
set_option maxRecDepth 20000 in
theorem ggX12_isMarked_X12_seat : GoodIn wsX12_isMarked wsX12_seat := goodIn_r _ [13] (by decide +kernel) (by decide +kernel)
set_option maxRecDepth 20000 in
theorem gX12_isMarked_X12_seat : GoodIn wsX12_isMarked (va_wsS RX12 45 yX12_seat wsX12_seat) := goodIn_app (goodIn_of _ (by decide +kernel)) ggX12_isMarked_X12_seat
set_option maxRecDepth 20000 in
theorem ggX12_isMarked_X12_isBarred : GoodIn wsX12_isMarked wsX12_isBarred := goodIn_r _ [17, 1, 11, 12, 5, 13, 18, 19, 20, 21, 22, 23, 24, 25, 26, 27, 28, 29] (by decide +kernel) (by decide +kernel)
set_option maxRecDepth 20000 in
theorem gX12_isMarked_X12_isBarred : GoodIn wsX12_isMarked (wsV RX12 110 RX12 yX12_isBarred wsX12_isBarred) := goodIn_app (goodIn_of _ (by decide +kernel)) ggX12_isMarked_X12_isBarred
theorem dX12_isMarked_0 : decode cX12_isMarked 0 = .ok (.iconst 2, 1) := by decide +kernel
theorem dX12_isMarked_1 : decode cX12_isMarked 1 = .ok (.aload_n 0, 1) := by decide +kernel
theorem dX12_isMarked_2 : decode cX12_isMarked 2 = .ok (.iload_n 1, 1) := by decide +kernel
theorem dX12_isMarked_3 : decode cX12_isMarked 3 = .ok (.iload_n 2, 1) := by decide +kernel
theorem dX12_isMarked_4 : decode cX12_isMarked 4 = .ok (.invokevirtual 122, 3) := by decide +kernel
theorem dX12_isMarked_7 : decode cX12_isMarked 7 = .ok (.imul, 1) := by decide +kernel
theorem dX12_isMarked_8 : decode cX12_isMarked 8 = .ok (.aload_n 0, 1) := by decide +kernel
theorem dX12_isMarked_9 : decode cX12_isMarked 9 = .ok (.getfield 7, 3) := by decide +kernel
theorem dX12_isMarked_12 : decode cX12_isMarked 12 = .ok (.iconst 0, 1) := by decide +kernel
theorem dX12_isMarked_13 : decode cX12_isMarked 13 = .ok (.iaload, 1) := by decide +kernel
theorem dX12_isMarked_14 : decode cX12_isMarked 14 = .ok (.if_icmp .lt 7, 3) := by decide +kernel
theorem dX12_isMarked_17 : decode cX12_isMarked 17 = .ok (.iconst 1, 1) := by decide +kernel
theorem dX12_isMarked_18 : decode cX12_isMarked 18 = .ok (.goto 4, 3) := by decide +kernel
theorem dX12_isMarked_21 : decode cX12_isMarked 21 = .ok (.iconst 0, 1) := by decide +kernel
theorem dX12_isMarked_22 : decode cX12_isMarked 22 = .ok (.istore_n 3, 1) := by decide +kernel
theorem dX12_isMarked_23 : decode cX12_isMarked 23 = .ok (.iconst 0, 1) := by decide +kernel
theorem dX12_isMarked_24 : decode cX12_isMarked 24 = .ok (.istore 4, 2) := by decide +kernel
theorem dX12_isMarked_26 : decode cX12_isMarked 26 = .ok (.iload 4, 2) := by decide +kernel
theorem dX12_isMarked_28 : decode cX12_isMarked 28 = .ok (.aload_n 0, 1) := by decide +kernel
theorem dX12_isMarked_29 : decode cX12_isMarked 29 = .ok (.getfield 7, 3) := by decide +kernel
theorem dX12_isMarked_32 : decode cX12_isMarked 32 = .ok (.iconst 0, 1) := by decide +kernel
theorem dX12_isMarked_33 : decode cX12_isMarked 33 = .ok (.iaload, 1) := by decide +kernel
theorem dX12_isMarked_34 : decode cX12_isMarked 34 = .ok (.if_icmp .ge 46, 3) := by decide +kernel
theorem dX12_isMarked_37 : decode cX12_isMarked 37 = .ok (.iload_n 3, 1) := by decide +kernel
theorem dX12_isMarked_38 : decode cX12_isMarked 38 = .ok (.ifCond .eq 34, 3) := by decide +kernel
theorem dX12_isMarked_41 : decode cX12_isMarked 41 = .ok (.aload_n 0, 1) := by decide +kernel
theorem dX12_isMarked_42 : decode cX12_isMarked 42 = .ok (.getfield 7, 3) := by decide +kernel
theorem dX12_isMarked_45 : decode cX12_isMarked 45 = .ok (.iload_n 1, 1) := by decide +kernel
theorem dX12_isMarked_46 : decode cX12_isMarked 46 = .ok (.iload 4, 2) := by decide +kernel
theorem dX12_isMarked_48 : decode cX12_isMarked 48 = .ok (.iload_n 2, 1) := by decide +kernel
theorem dX12_isMarked_49 : decode cX12_isMarked 49 = .ok (.invokestatic 45, 3) := by decide +kernel
theorem dX12_isMarked_52 : decode cX12_isMarked 52 = .ok (.iadd, 1) := by decide +kernel
theorem dX12_isMarked_53 : decode cX12_isMarked 53 = .ok (.iaload, 1) := by decide +kernel
theorem dX12_isMarked_54 : decode cX12_isMarked 54 = .ok (.iconst (-1), 1) := by decide +kernel
theorem dX12_isMarked_55 : decode cX12_isMarked 55 = .ok (.if_icmp .ne 13, 3) := by decide +kernel
theorem dX12_isMarked_58 : decode cX12_isMarked 58 = .ok (.aload_n 0, 1) := by decide +kernel
theorem dX12_isMarked_59 : decode cX12_isMarked 59 = .ok (.iload 4, 2) := by decide +kernel
theorem dX12_isMarked_61 : decode cX12_isMarked 61 = .ok (.iload_n 2, 1) := by decide +kernel
theorem dX12_isMarked_62 : decode cX12_isMarked 62 = .ok (.invokevirtual 110, 3) := by decide +kernel
theorem dX12_isMarked_65 : decode cX12_isMarked 65 = .ok (.ifCond .eq 7, 3) := by decide +kernel
theorem dX12_isMarked_68 : decode cX12_isMarked 68 = .ok (.iconst 1, 1) := by decide +kernel
theorem dX12_isMarked_69 : decode cX12_isMarked 69 = .ok (.goto 4, 3) := by decide +kernel
theorem dX12_isMarked_72 : decode cX12_isMarked 72 = .ok (.iconst 0, 1) := by decide +kernel
theorem dX12_isMarked_73 : decode cX12_isMarked 73 = .ok (.istore_n 3, 1) := by decide +kernel
theorem dX12_isMarked_74 : decode cX12_isMarked 74 = .ok (.iinc 4 1, 3) := by decide +kernel
theorem dX12_isMarked_77 : decode cX12_isMarked 77 = .ok (.goto (-51), 3) := by decide +kernel
theorem dX12_isMarked_80 : decode cX12_isMarked 80 = .ok (.iload_n 3, 1) := by decide +kernel
theorem dX12_isMarked_81 : decode cX12_isMarked 81 = .ok (.ireturn, 1) := by decide +kernel
set_option maxRecDepth 20000 in
theorem ggX12_isComplete_X12_hasPlayed : GoodIn wsX12_isComplete wsX12_hasPlayed := goodIn_r _ [5, 6, 7, 8, 9, 4, 10, 11, 12, 13, 33, 34, 35, 36, 37, 38, 39, 40, 41, 42, 43, 44] (by decide +kernel) (by decide +kernel)
set_option maxRecDepth 20000 in
theorem gX12_isComplete_X12_hasPlayed : GoodIn wsX12_isComplete (wsV RX12 119 RX12 yX12_hasPlayed wsX12_hasPlayed) := goodIn_app (goodIn_of _ (by decide +kernel)) ggX12_isComplete_X12_hasPlayed
set_option maxRecDepth 20000 in
theorem ggX12_isComplete_X12_isMarked : GoodIn wsX12_isComplete wsX12_isMarked := goodIn_r _ [17, 6, 18, 19, 20, 4, 21, 22, 23, 24, 25, 26, 27, 28, 29, 30, 31, 32, 33, 34, 35, 36, 37, 38, 39, 40, 41, 42, 43, 44] (by decide +kernel) (by decide +kernel)
set_option maxRecDepth 20000 in
theorem gX12_isComplete_X12_isMarked : GoodIn wsX12_isComplete (wsV RX12 125 RX12 yX12_isMarked wsX12_isMarked) := goodIn_app (goodIn_of _ (by decide +kernel)) ggX12_isComplete_X12_isMarked
theorem dX12_isComplete_0 : decode cX12_isComplete 0 = .ok (.aload_n 0, 1) := by decide +kernel
theorem dX12_isComplete_1 : decode cX12_isComplete 1 = .ok (.iload_n 1, 1) := by decide +kernel
theorem dX12_isComplete_2 : decode cX12_isComplete 2 = .ok (.invokevirtual 119, 3) := by decide +kernel
theorem dX12_isComplete_5 : decode cX12_isComplete 5 = .ok (.ifCond .eq 18, 3) := by decide +kernel
theorem dX12_isComplete_8 : decode cX12_isComplete 8 = .ok (.aload_n 0, 1) := by decide +kernel
theorem dX12_isComplete_9 : decode cX12_isComplete 9 = .ok (.sipush 486, 3) := by decide +kernel
theorem dX12_isComplete_12 : decode cX12_isComplete 12 = .ok (.iload_n 1, 1) := by decide +kernel
theorem dX12_isComplete_13 : decode cX12_isComplete 13 = .ok (.invokevirtual 125, 3) := by decide +kernel
theorem dX12_isComplete_16 : decode cX12_isComplete 16 = .ok (.ifCond .eq 7, 3) := by decide +kernel
theorem dX12_isComplete_19 : decode cX12_isComplete 19 = .ok (.iconst 1, 1) := by decide +kernel
theorem dX12_isComplete_20 : decode cX12_isComplete 20 = .ok (.goto 4, 3) := by decide +kernel
theorem dX12_isComplete_23 : decode cX12_isComplete 23 = .ok (.iconst 0, 1) := by decide +kernel
theorem dX12_isComplete_24 : decode cX12_isComplete 24 = .ok (.ireturn, 1) := by decide +kernel
set_option maxRecDepth 20000 in
theorem ggX12_mayMark_X12_hasPlayed : GoodIn wsX12_mayMark wsX12_hasPlayed := goodIn_r _ [6, 1, 7, 8, 9, 5, 10, 11, 12, 13, 21, 22, 23, 24, 25, 26, 27, 28, 29, 30, 31, 32] (by decide +kernel) (by decide +kernel)
set_option maxRecDepth 20000 in
theorem gX12_mayMark_X12_hasPlayed : GoodIn wsX12_mayMark (wsV RX12 119 RX12 yX12_hasPlayed wsX12_hasPlayed) := goodIn_app (goodIn_of _ (by decide +kernel)) ggX12_mayMark_X12_hasPlayed
set_option maxRecDepth 20000 in
theorem ggX12_mayMark_X12_isBarred : GoodIn wsX12_mayMark wsX12_isBarred := goodIn_r _ [17, 1, 18, 19, 5, 20, 21, 22, 23, 24, 25, 26, 27, 28, 29, 30, 31, 32] (by decide +kernel) (by decide +kernel)
set_option maxRecDepth 20000 in
theorem gX12_mayMark_X12_isBarred : GoodIn wsX12_mayMark (wsV RX12 110 RX12 yX12_isBarred wsX12_isBarred) := goodIn_app (goodIn_of _ (by decide +kernel)) ggX12_mayMark_X12_isBarred
theorem dX12_mayMark_0 : decode cX12_mayMark 0 = .ok (.aload_n 0, 1) := by decide +kernel
theorem dX12_mayMark_1 : decode cX12_mayMark 1 = .ok (.getfield 7, 3) := by decide +kernel
theorem dX12_mayMark_4 : decode cX12_mayMark 4 = .ok (.iconst 3, 1) := by decide +kernel
theorem dX12_mayMark_5 : decode cX12_mayMark 5 = .ok (.iaload, 1) := by decide +kernel
theorem dX12_mayMark_6 : decode cX12_mayMark 6 = .ok (.iconst 1, 1) := by decide +kernel
theorem dX12_mayMark_7 : decode cX12_mayMark 7 = .ok (.if_icmp .ne 11, 3) := by decide +kernel
theorem dX12_mayMark_10 : decode cX12_mayMark 10 = .ok (.aload_n 0, 1) := by decide +kernel
theorem dX12_mayMark_11 : decode cX12_mayMark 11 = .ok (.iload_n 2, 1) := by decide +kernel
theorem dX12_mayMark_12 : decode cX12_mayMark 12 = .ok (.invokevirtual 119, 3) := by decide +kernel
theorem dX12_mayMark_15 : decode cX12_mayMark 15 = .ok (.ifCond .ne 27, 3) := by decide +kernel
theorem dX12_mayMark_18 : decode cX12_mayMark 18 = .ok (.aload_n 0, 1) := by decide +kernel
theorem dX12_mayMark_19 : decode cX12_mayMark 19 = .ok (.getfield 7, 3) := by decide +kernel
theorem dX12_mayMark_22 : decode cX12_mayMark 22 = .ok (.iconst 3, 1) := by decide +kernel
theorem dX12_mayMark_23 : decode cX12_mayMark 23 = .ok (.iaload, 1) := by decide +kernel
theorem dX12_mayMark_24 : decode cX12_mayMark 24 = .ok (.iconst 2, 1) := by decide +kernel
theorem dX12_mayMark_25 : decode cX12_mayMark 25 = .ok (.if_icmp .ne 21, 3) := by decide +kernel
theorem dX12_mayMark_28 : decode cX12_mayMark 28 = .ok (.aload_n 0, 1) := by decide +kernel
theorem dX12_mayMark_29 : decode cX12_mayMark 29 = .ok (.getfield 7, 3) := by decide +kernel
theorem dX12_mayMark_32 : decode cX12_mayMark 32 = .ok (.sipush 654, 3) := by decide +kernel
theorem dX12_mayMark_35 : decode cX12_mayMark 35 = .ok (.iload_n 2, 1) := by decide +kernel
theorem dX12_mayMark_36 : decode cX12_mayMark 36 = .ok (.iadd, 1) := by decide +kernel
theorem dX12_mayMark_37 : decode cX12_mayMark 37 = .ok (.iaload, 1) := by decide +kernel
theorem dX12_mayMark_38 : decode cX12_mayMark 38 = .ok (.iconst 1, 1) := by decide +kernel
theorem dX12_mayMark_39 : decode cX12_mayMark 39 = .ok (.if_icmp .ne 7, 3) := by decide +kernel
theorem dX12_mayMark_42 : decode cX12_mayMark 42 = .ok (.iconst 1, 1) := by decide +kernel
theorem dX12_mayMark_43 : decode cX12_mayMark 43 = .ok (.goto 4, 3) := by decide +kernel
theorem dX12_mayMark_46 : decode cX12_mayMark 46 = .ok (.iconst 0, 1) := by decide +kernel
theorem dX12_mayMark_47 : decode cX12_mayMark 47 = .ok (.istore_n 3, 1) := by decide +kernel
theorem dX12_mayMark_48 : decode cX12_mayMark 48 = .ok (.iload_n 3, 1) := by decide +kernel
theorem dX12_mayMark_49 : decode cX12_mayMark 49 = .ok (.ifCond .eq 16, 3) := by decide +kernel
theorem dX12_mayMark_52 : decode cX12_mayMark 52 = .ok (.aload_n 0, 1) := by decide +kernel
theorem dX12_mayMark_53 : decode cX12_mayMark 53 = .ok (.iload_n 1, 1) := by decide +kernel
theorem dX12_mayMark_54 : decode cX12_mayMark 54 = .ok (.iload_n 2, 1) := by decide +kernel
theorem dX12_mayMark_55 : decode cX12_mayMark 55 = .ok (.invokevirtual 110, 3) := by decide +kernel
theorem dX12_mayMark_58 : decode cX12_mayMark 58 = .ok (.ifCond .ne 7, 3) := by decide +kernel
theorem dX12_mayMark_61 : decode cX12_mayMark 61 = .ok (.iconst 1, 1) := by decide +kernel
theorem dX12_mayMark_62 : decode cX12_mayMark 62 = .ok (.goto 4, 3) := by decide +kernel
theorem dX12_mayMark_65 : decode cX12_mayMark 65 = .ok (.iconst 0, 1) := by decide +kernel
theorem dX12_mayMark_66 : decode cX12_mayMark 66 = .ok (.ireturn, 1) := by decide +kernel
set_option maxRecDepth 20000 in
theorem ggX12_marks_X12_keep : GoodIn wsX12_marks wsX12_keep := goodIn_r _ [6, 7, 8, 1, 24, 25, 26, 27, 28, 29, 30, 31, 32, 33, 34, 35] (by decide +kernel) (by decide +kernel)
set_option maxRecDepth 20000 in
theorem gX12_marks_X12_keep : GoodIn wsX12_marks (wsV RX12 38 RX12 yX12_keep wsX12_keep) := goodIn_app (goodIn_of _ (by decide +kernel)) ggX12_marks_X12_keep
set_option maxRecDepth 20000 in
theorem ggX12_marks_X12_seat : GoodIn wsX12_marks wsX12_seat := goodIn_r _ [11] (by decide +kernel) (by decide +kernel)
set_option maxRecDepth 20000 in
theorem gX12_marks_X12_seat : GoodIn wsX12_marks (va_wsS RX12 45 yX12_seat wsX12_seat) := goodIn_app (goodIn_of _ (by decide +kernel)) ggX12_marks_X12_seat
set_option maxRecDepth 20000 in
theorem ggX12_marks_X12_counting : GoodIn wsX12_marks wsX12_counting := goodIn_r _ [15, 1, 16, 17, 18, 5, 19, 9, 10, 11, 20, 21, 22, 23, 24, 25, 26, 27, 28, 29, 30, 31, 32, 33, 34, 35] (by decide +kernel) (by decide +kernel)
set_option maxRecDepth 20000 in
theorem gX12_marks_X12_counting : GoodIn wsX12_marks (wsV RX12 122 RX12 yX12_counting wsX12_counting) := goodIn_app (goodIn_of _ (by decide +kernel)) ggX12_marks_X12_counting
theorem dX12_marks_0 : decode cX12_marks 0 = .ok (.aload_n 0, 1) := by decide +kernel
theorem dX12_marks_1 : decode cX12_marks 1 = .ok (.invokevirtual 38, 3) := by decide +kernel
theorem dX12_marks_4 : decode cX12_marks 4 = .ok (.aload_n 0, 1) := by decide +kernel
theorem dX12_marks_5 : decode cX12_marks 5 = .ok (.getfield 7, 3) := by decide +kernel
theorem dX12_marks_8 : decode cX12_marks 8 = .ok (.iconst 3, 1) := by decide +kernel
theorem dX12_marks_9 : decode cX12_marks 9 = .ok (.iaload, 1) := by decide +kernel
theorem dX12_marks_10 : decode cX12_marks 10 = .ok (.iconst 1, 1) := by decide +kernel
theorem dX12_marks_11 : decode cX12_marks 11 = .ok (.if_icmp .ne 9, 3) := by decide +kernel
theorem dX12_marks_14 : decode cX12_marks 14 = .ok (.sipush 486, 3) := by decide +kernel
theorem dX12_marks_17 : decode cX12_marks 17 = .ok (.goto 6, 3) := by decide +kernel
theorem dX12_marks_20 : decode cX12_marks 20 = .ok (.sipush 570, 3) := by decide +kernel
theorem dX12_marks_23 : decode cX12_marks 23 = .ok (.istore 4, 2) := by decide +kernel
theorem dX12_marks_25 : decode cX12_marks 25 = .ok (.aload_n 0, 1) := by decide +kernel
theorem dX12_marks_26 : decode cX12_marks 26 = .ok (.getfield 7, 3) := by decide +kernel
theorem dX12_marks_29 : decode cX12_marks 29 = .ok (.iload 4, 2) := by decide +kernel
theorem dX12_marks_31 : decode cX12_marks 31 = .ok (.iload_n 1, 1) := by decide +kernel
theorem dX12_marks_32 : decode cX12_marks 32 = .ok (.iload_n 2, 1) := by decide +kernel
theorem dX12_marks_33 : decode cX12_marks 33 = .ok (.invokestatic 45, 3) := by decide +kernel
theorem dX12_marks_36 : decode cX12_marks 36 = .ok (.iadd, 1) := by decide +kernel
theorem dX12_marks_37 : decode cX12_marks 37 = .ok (.iload_n 3, 1) := by decide +kernel
theorem dX12_marks_38 : decode cX12_marks 38 = .ok (.iastore, 1) := by decide +kernel
theorem dX12_marks_39 : decode cX12_marks 39 = .ok (.aload_n 0, 1) := by decide +kernel
theorem dX12_marks_40 : decode cX12_marks 40 = .ok (.iload 4, 2) := by decide +kernel
theorem dX12_marks_42 : decode cX12_marks 42 = .ok (.iload_n 2, 1) := by decide +kernel
theorem dX12_marks_43 : decode cX12_marks 43 = .ok (.invokevirtual 122, 3) := by decide +kernel
theorem dX12_marks_46 : decode cX12_marks 46 = .ok (.ireturn, 1) := by decide +kernel
set_option maxRecDepth 20000 in
theorem ggX12_mark_X12_isJuror : GoodIn wsX12_mark wsX12_isJuror := goodIn_r _ [7, 1, 8, 9, 6, 10, 52, 53, 54, 55, 56, 57, 58, 59, 60, 61, 62, 63] (by decide +kernel) (by decide +kernel)
set_option maxRecDepth 20000 in
theorem gX12_mark_X12_isJuror : GoodIn wsX12_mark (wsV RX12 49 RX12 yX12_isJuror wsX12_isJuror) := goodIn_app (goodIn_of _ (by decide +kernel)) ggX12_mark_X12_isJuror
set_option maxRecDepth 20000 in
theorem ggX12_mark_X12_isEntrant : GoodIn wsX12_mark wsX12_isEntrant := goodIn_r _ [14, 1, 8, 9, 6, 10, 52, 53, 54, 55, 56, 57, 58, 59, 60, 61, 62, 63] (by decide +kernel) (by decide +kernel)
set_option maxRecDepth 20000 in
theorem gX12_mark_X12_isEntrant : GoodIn wsX12_mark (wsV RX12 53 RX12 yX12_isEntrant wsX12_isEntrant) := goodIn_app (goodIn_of _ (by decide +kernel)) ggX12_mark_X12_isEntrant
set_option maxRecDepth 20000 in
theorem ggX12_mark_X12_in : GoodIn wsX12_mark wsX12_in := goodIn_r _ [10] (by decide +kernel) (by decide +kernel)
set_option maxRecDepth 20000 in
theorem gX12_mark_X12_in : GoodIn wsX12_mark (va_wsS RX12 41 yX12_in wsX12_in) := goodIn_app (goodIn_of _ (by decide +kernel)) ggX12_mark_X12_in
set_option maxRecDepth 20000 in
theorem ggX12_mark_X12_mayMark : GoodIn wsX12_mark wsX12_mayMark := goodIn_r _ [18, 1, 19, 20, 21, 6, 22, 23, 24, 25, 26, 8, 9, 10, 27, 28, 29, 30, 31, 32, 33, 52, 53, 54, 55, 56, 57, 58, 59, 60, 61, 62, 63] (by decide +kernel) (by decide +kernel)
set_option maxRecDepth 20000 in
theorem gX12_mark_X12_mayMark : GoodIn wsX12_mark (wsV RX12 128 RX12 yX12_mayMark wsX12_mayMark) := goodIn_app (goodIn_of _ (by decide +kernel)) ggX12_mark_X12_mayMark
set_option maxRecDepth 20000 in
theorem ggX12_mark_X12_marks : GoodIn wsX12_mark wsX12_marks := goodIn_r _ [37, 1, 38, 39, 40, 6, 41, 42, 43, 31, 32, 33, 44, 45, 46, 47, 48, 49, 50, 51, 27, 28, 29, 30, 52, 53, 54, 55, 56, 57, 58, 59, 60, 61, 62, 63] (by decide +kernel) (by decide +kernel)
set_option maxRecDepth 20000 in
theorem gX12_mark_X12_marks : GoodIn wsX12_mark (wsV RX12 131 RX12 yX12_marks wsX12_marks) := goodIn_app (goodIn_of _ (by decide +kernel)) ggX12_mark_X12_marks
theorem dX12_mark_0 : decode cX12_mark 0 = .ok (.aload_n 0, 1) := by decide +kernel
theorem dX12_mark_1 : decode cX12_mark 1 = .ok (.getfield 7, 3) := by decide +kernel
theorem dX12_mark_4 : decode cX12_mark 4 = .ok (.iconst 3, 1) := by decide +kernel
theorem dX12_mark_5 : decode cX12_mark 5 = .ok (.iaload, 1) := by decide +kernel
theorem dX12_mark_6 : decode cX12_mark 6 = .ok (.iconst 2, 1) := by decide +kernel
theorem dX12_mark_7 : decode cX12_mark 7 = .ok (.if_icmp .ne 8, 3) := by decide +kernel
theorem dX12_mark_10 : decode cX12_mark 10 = .ok (.bipush 10, 2) := by decide +kernel
theorem dX12_mark_12 : decode cX12_mark 12 = .ok (.goto 5, 3) := by decide +kernel
theorem dX12_mark_15 : decode cX12_mark 15 = .ok (.bipush 100, 2) := by decide +kernel
theorem dX12_mark_17 : decode cX12_mark 17 = .ok (.istore 4, 2) := by decide +kernel
theorem dX12_mark_19 : decode cX12_mark 19 = .ok (.aload_n 0, 1) := by decide +kernel
theorem dX12_mark_20 : decode cX12_mark 20 = .ok (.aload_n 0, 1) := by decide +kernel
theorem dX12_mark_21 : decode cX12_mark 21 = .ok (.iload_n 1, 1) := by decide +kernel
theorem dX12_mark_22 : decode cX12_mark 22 = .ok (.invokevirtual 49, 3) := by decide +kernel
theorem dX12_mark_25 : decode cX12_mark 25 = .ok (.ifCond .eq 11, 3) := by decide +kernel
theorem dX12_mark_28 : decode cX12_mark 28 = .ok (.aload_n 0, 1) := by decide +kernel
theorem dX12_mark_29 : decode cX12_mark 29 = .ok (.iload_n 2, 1) := by decide +kernel
theorem dX12_mark_30 : decode cX12_mark 30 = .ok (.invokevirtual 53, 3) := by decide +kernel
theorem dX12_mark_33 : decode cX12_mark 33 = .ok (.ifCond .ne 7, 3) := by decide +kernel
theorem dX12_mark_36 : decode cX12_mark 36 = .ok (.iconst 1, 1) := by decide +kernel
theorem dX12_mark_37 : decode cX12_mark 37 = .ok (.goto 31, 3) := by decide +kernel
theorem dX12_mark_40 : decode cX12_mark 40 = .ok (.iload_n 3, 1) := by decide +kernel
theorem dX12_mark_41 : decode cX12_mark 41 = .ok (.iconst 0, 1) := by decide +kernel
theorem dX12_mark_42 : decode cX12_mark 42 = .ok (.iload 4, 2) := by decide +kernel
theorem dX12_mark_44 : decode cX12_mark 44 = .ok (.invokestatic 41, 3) := by decide +kernel
theorem dX12_mark_47 : decode cX12_mark 47 = .ok (.ifCond .ne 7, 3) := by decide +kernel
theorem dX12_mark_50 : decode cX12_mark 50 = .ok (.iconst 2, 1) := by decide +kernel
theorem dX12_mark_51 : decode cX12_mark 51 = .ok (.goto 17, 3) := by decide +kernel
theorem dX12_mark_54 : decode cX12_mark 54 = .ok (.aload_n 0, 1) := by decide +kernel
theorem dX12_mark_55 : decode cX12_mark 55 = .ok (.iload_n 1, 1) := by decide +kernel
theorem dX12_mark_56 : decode cX12_mark 56 = .ok (.iload_n 2, 1) := by decide +kernel
theorem dX12_mark_57 : decode cX12_mark 57 = .ok (.invokevirtual 128, 3) := by decide +kernel
theorem dX12_mark_60 : decode cX12_mark 60 = .ok (.ifCond .eq 7, 3) := by decide +kernel
theorem dX12_mark_63 : decode cX12_mark 63 = .ok (.iconst 0, 1) := by decide +kernel
theorem dX12_mark_64 : decode cX12_mark 64 = .ok (.goto 4, 3) := by decide +kernel
theorem dX12_mark_67 : decode cX12_mark 67 = .ok (.iconst 3, 1) := by decide +kernel
theorem dX12_mark_68 : decode cX12_mark 68 = .ok (.putfield 31, 3) := by decide +kernel
theorem dX12_mark_71 : decode cX12_mark 71 = .ok (.aload_n 0, 1) := by decide +kernel
theorem dX12_mark_72 : decode cX12_mark 72 = .ok (.getfield 31, 3) := by decide +kernel
theorem dX12_mark_75 : decode cX12_mark 75 = .ok (.ifCond .eq 7, 3) := by decide +kernel
theorem dX12_mark_78 : decode cX12_mark 78 = .ok (.iconst 0, 1) := by decide +kernel
theorem dX12_mark_79 : decode cX12_mark 79 = .ok (.goto 10, 3) := by decide +kernel
theorem dX12_mark_82 : decode cX12_mark 82 = .ok (.aload_n 0, 1) := by decide +kernel
theorem dX12_mark_83 : decode cX12_mark 83 = .ok (.iload_n 1, 1) := by decide +kernel
theorem dX12_mark_84 : decode cX12_mark 84 = .ok (.iload_n 2, 1) := by decide +kernel
theorem dX12_mark_85 : decode cX12_mark 85 = .ok (.iload_n 3, 1) := by decide +kernel
theorem dX12_mark_86 : decode cX12_mark 86 = .ok (.invokevirtual 131, 3) := by decide +kernel
theorem dX12_mark_89 : decode cX12_mark 89 = .ok (.ireturn, 1) := by decide +kernel
set_option maxRecDepth 20000 in
theorem ggX12_abstain_X12_isJuror : GoodIn wsX12_abstain wsX12_isJuror := goodIn_r _ [6, 7, 8, 9, 5, 10, 52, 53, 54, 55, 56, 57, 58, 59, 60, 61, 62, 63] (by decide +kernel) (by decide +kernel)
set_option maxRecDepth 20000 in
theorem gX12_abstain_X12_isJuror : GoodIn wsX12_abstain (wsV RX12 49 RX12 yX12_isJuror wsX12_isJuror) := goodIn_app (goodIn_of _ (by decide +kernel)) ggX12_abstain_X12_isJuror
set_option maxRecDepth 20000 in
theorem ggX12_abstain_X12_isEntrant : GoodIn wsX12_abstain wsX12_isEntrant := goodIn_r _ [14, 7, 8, 9, 5, 10, 52, 53, 54, 55, 56, 57, 58, 59, 60, 61, 62, 63] (by decide +kernel) (by decide +kernel)
set_option maxRecDepth 20000 in
theorem gX12_abstain_X12_isEntrant : GoodIn wsX12_abstain (wsV RX12 53 RX12 yX12_isEntrant wsX12_isEntrant) := goodIn_app (goodIn_of _ (by decide +kernel)) ggX12_abstain_X12_isEntrant
set_option maxRecDepth 20000 in
theorem ggX12_abstain_X12_mayMark : GoodIn wsX12_abstain wsX12_mayMark := goodIn_r _ [18, 7, 19, 20, 21, 5, 22, 23, 24, 25, 26, 8, 9, 10, 27, 28, 29, 30, 31, 32, 33, 52, 53, 54, 55, 56, 57, 58, 59, 60, 61, 62, 63] (by decide +kernel) (by decide +kernel)
set_option maxRecDepth 20000 in
theorem gX12_abstain_X12_mayMark : GoodIn wsX12_abstain (wsV RX12 128 RX12 yX12_mayMark wsX12_mayMark) := goodIn_app (goodIn_of _ (by decide +kernel)) ggX12_abstain_X12_mayMark
set_option maxRecDepth 20000 in
theorem ggX12_abstain_X12_marks : GoodIn wsX12_abstain wsX12_marks := goodIn_r _ [37, 7, 38, 39, 40, 5, 41, 42, 43, 31, 32, 33, 44, 45, 46, 47, 48, 49, 50, 51, 27, 28, 29, 30, 52, 53, 54, 55, 56, 57, 58, 59, 60, 61, 62, 63] (by decide +kernel) (by decide +kernel)
set_option maxRecDepth 20000 in
theorem gX12_abstain_X12_marks : GoodIn wsX12_abstain (wsV RX12 131 RX12 yX12_marks wsX12_marks) := goodIn_app (goodIn_of _ (by decide +kernel)) ggX12_abstain_X12_marks
theorem dX12_abstain_0 : decode cX12_abstain 0 = .ok (.aload_n 0, 1) := by decide +kernel
theorem dX12_abstain_1 : decode cX12_abstain 1 = .ok (.aload_n 0, 1) := by decide +kernel
theorem dX12_abstain_2 : decode cX12_abstain 2 = .ok (.iload_n 1, 1) := by decide +kernel
theorem dX12_abstain_3 : decode cX12_abstain 3 = .ok (.invokevirtual 49, 3) := by decide +kernel
theorem dX12_abstain_6 : decode cX12_abstain 6 = .ok (.ifCond .eq 11, 3) := by decide +kernel
theorem dX12_abstain_9 : decode cX12_abstain 9 = .ok (.aload_n 0, 1) := by decide +kernel
theorem dX12_abstain_10 : decode cX12_abstain 10 = .ok (.iload_n 2, 1) := by decide +kernel
theorem dX12_abstain_11 : decode cX12_abstain 11 = .ok (.invokevirtual 53, 3) := by decide +kernel
theorem dX12_abstain_14 : decode cX12_abstain 14 = .ok (.ifCond .ne 7, 3) := by decide +kernel
theorem dX12_abstain_17 : decode cX12_abstain 17 = .ok (.iconst 1, 1) := by decide +kernel
theorem dX12_abstain_18 : decode cX12_abstain 18 = .ok (.goto 17, 3) := by decide +kernel
theorem dX12_abstain_21 : decode cX12_abstain 21 = .ok (.aload_n 0, 1) := by decide +kernel
theorem dX12_abstain_22 : decode cX12_abstain 22 = .ok (.iload_n 1, 1) := by decide +kernel
theorem dX12_abstain_23 : decode cX12_abstain 23 = .ok (.iload_n 2, 1) := by decide +kernel
theorem dX12_abstain_24 : decode cX12_abstain 24 = .ok (.invokevirtual 128, 3) := by decide +kernel
theorem dX12_abstain_27 : decode cX12_abstain 27 = .ok (.ifCond .eq 7, 3) := by decide +kernel
theorem dX12_abstain_30 : decode cX12_abstain 30 = .ok (.iconst 0, 1) := by decide +kernel
theorem dX12_abstain_31 : decode cX12_abstain 31 = .ok (.goto 4, 3) := by decide +kernel
theorem dX12_abstain_34 : decode cX12_abstain 34 = .ok (.iconst 2, 1) := by decide +kernel
theorem dX12_abstain_35 : decode cX12_abstain 35 = .ok (.putfield 31, 3) := by decide +kernel
theorem dX12_abstain_38 : decode cX12_abstain 38 = .ok (.aload_n 0, 1) := by decide +kernel
theorem dX12_abstain_39 : decode cX12_abstain 39 = .ok (.getfield 31, 3) := by decide +kernel
theorem dX12_abstain_42 : decode cX12_abstain 42 = .ok (.ifCond .eq 7, 3) := by decide +kernel
theorem dX12_abstain_45 : decode cX12_abstain 45 = .ok (.iconst 0, 1) := by decide +kernel
theorem dX12_abstain_46 : decode cX12_abstain 46 = .ok (.goto 11, 3) := by decide +kernel
theorem dX12_abstain_49 : decode cX12_abstain 49 = .ok (.aload_n 0, 1) := by decide +kernel
theorem dX12_abstain_50 : decode cX12_abstain 50 = .ok (.iload_n 1, 1) := by decide +kernel
theorem dX12_abstain_51 : decode cX12_abstain 51 = .ok (.iload_n 2, 1) := by decide +kernel
theorem dX12_abstain_52 : decode cX12_abstain 52 = .ok (.bipush (-2), 2) := by decide +kernel
theorem dX12_abstain_54 : decode cX12_abstain 54 = .ok (.invokevirtual 131, 3) := by decide +kernel
theorem dX12_abstain_57 : decode cX12_abstain 57 = .ok (.ireturn, 1) := by decide +kernel
set_option maxRecDepth 20000 in
theorem ggX12_scoreFor_X12_scoreOf : GoodIn wsX12_scoreFor wsX12_scoreOf := goodIn_r _ [5, 6, 7, 8, 9, 4, 10, 11, 12, 13, 14, 15, 16, 17, 18, 19, 20, 21, 22, 23, 24, 25, 26, 27, 28, 29, 30, 31, 32, 33, 34, 35, 36, 37, 38, 39, 40, 41, 42, 43, 44] (by decide +kernel) (by decide +kernel)
set_option maxRecDepth 20000 in
theorem gX12_scoreFor_X12_scoreOf : GoodIn wsX12_scoreFor (wsV RX12 134 RX12 yX12_scoreOf wsX12_scoreOf) := goodIn_app (goodIn_of _ (by decide +kernel)) ggX12_scoreFor_X12_scoreOf
set_option maxRecDepth 20000 in
theorem ggX12_scoreFor_X12_mean : GoodIn wsX12_scoreFor wsX12_mean := goodIn_r _ [10, 6, 11, 12, 13, 4, 14, 15, 16, 17, 18, 19, 20, 21, 33, 34, 35, 36, 37, 38, 39, 40, 41, 42, 43, 44] (by decide +kernel) (by decide +kernel)
set_option maxRecDepth 20000 in
theorem gX12_scoreFor_X12_mean : GoodIn wsX12_scoreFor (wsV RX12 116 RX12 yX12_mean wsX12_mean) := goodIn_app (goodIn_of _ (by decide +kernel)) ggX12_scoreFor_X12_mean
theorem dX12_scoreFor_0 : decode cX12_scoreFor 0 = .ok (.iload_n 1, 1) := by decide +kernel
theorem dX12_scoreFor_1 : decode cX12_scoreFor 1 = .ok (.sipush 486, 3) := by decide +kernel
theorem dX12_scoreFor_4 : decode cX12_scoreFor 4 = .ok (.if_icmp .ne 11, 3) := by decide +kernel
theorem dX12_scoreFor_7 : decode cX12_scoreFor 7 = .ok (.aload_n 0, 1) := by decide +kernel
theorem dX12_scoreFor_8 : decode cX12_scoreFor 8 = .ok (.iload_n 2, 1) := by decide +kernel
theorem dX12_scoreFor_9 : decode cX12_scoreFor 9 = .ok (.invokevirtual 134, 3) := by decide +kernel
theorem dX12_scoreFor_12 : decode cX12_scoreFor 12 = .ok (.goto 12, 3) := by decide +kernel
theorem dX12_scoreFor_15 : decode cX12_scoreFor 15 = .ok (.aload_n 0, 1) := by decide +kernel
theorem dX12_scoreFor_16 : decode cX12_scoreFor 16 = .ok (.sipush 570, 3) := by decide +kernel
theorem dX12_scoreFor_19 : decode cX12_scoreFor 19 = .ok (.iload_n 2, 1) := by decide +kernel
theorem dX12_scoreFor_20 : decode cX12_scoreFor 20 = .ok (.iconst (-1), 1) := by decide +kernel
theorem dX12_scoreFor_21 : decode cX12_scoreFor 21 = .ok (.invokevirtual 116, 3) := by decide +kernel
theorem dX12_scoreFor_24 : decode cX12_scoreFor 24 = .ok (.ireturn, 1) := by decide +kernel
set_option maxRecDepth 20000 in
theorem ggX12_isAmong_X12_placeOf : GoodIn wsX12_isAmong wsX12_placeOf := goodIn_r _ [6, 1, 7, 8, 9, 10, 11, 12, 13, 14, 15, 16, 17, 18] (by decide +kernel) (by decide +kernel)
set_option maxRecDepth 20000 in
theorem gX12_isAmong_X12_placeOf : GoodIn wsX12_isAmong (wsV RX12 106 RX12 yX12_placeOf wsX12_placeOf) := goodIn_app (goodIn_of _ (by decide +kernel)) ggX12_isAmong_X12_placeOf
theorem dX12_isAmong_0 : decode cX12_isAmong 0 = .ok (.iload_n 1, 1) := by decide +kernel
theorem dX12_isAmong_1 : decode cX12_isAmong 1 = .ok (.sipush 486, 3) := by decide +kernel
theorem dX12_isAmong_4 : decode cX12_isAmong 4 = .ok (.if_icmp .ne 20, 3) := by decide +kernel
theorem dX12_isAmong_7 : decode cX12_isAmong 7 = .ok (.aload_n 0, 1) := by decide +kernel
theorem dX12_isAmong_8 : decode cX12_isAmong 8 = .ok (.iload_n 2, 1) := by decide +kernel
theorem dX12_isAmong_9 : decode cX12_isAmong 9 = .ok (.invokevirtual 106, 3) := by decide +kernel
theorem dX12_isAmong_12 : decode cX12_isAmong 12 = .ok (.iconst (-1), 1) := by decide +kernel
theorem dX12_isAmong_13 : decode cX12_isAmong 13 = .ok (.if_icmp .eq 7, 3) := by decide +kernel
theorem dX12_isAmong_16 : decode cX12_isAmong 16 = .ok (.iconst 1, 1) := by decide +kernel
theorem dX12_isAmong_17 : decode cX12_isAmong 17 = .ok (.goto 26, 3) := by decide +kernel
theorem dX12_isAmong_20 : decode cX12_isAmong 20 = .ok (.iconst 0, 1) := by decide +kernel
theorem dX12_isAmong_21 : decode cX12_isAmong 21 = .ok (.goto 22, 3) := by decide +kernel
theorem dX12_isAmong_24 : decode cX12_isAmong 24 = .ok (.aload_n 0, 1) := by decide +kernel
theorem dX12_isAmong_25 : decode cX12_isAmong 25 = .ok (.getfield 7, 3) := by decide +kernel
theorem dX12_isAmong_28 : decode cX12_isAmong 28 = .ok (.sipush 654, 3) := by decide +kernel
theorem dX12_isAmong_31 : decode cX12_isAmong 31 = .ok (.iload_n 2, 1) := by decide +kernel
theorem dX12_isAmong_32 : decode cX12_isAmong 32 = .ok (.iadd, 1) := by decide +kernel
theorem dX12_isAmong_33 : decode cX12_isAmong 33 = .ok (.iaload, 1) := by decide +kernel
theorem dX12_isAmong_34 : decode cX12_isAmong 34 = .ok (.iconst 1, 1) := by decide +kernel
theorem dX12_isAmong_35 : decode cX12_isAmong 35 = .ok (.if_icmp .ne 7, 3) := by decide +kernel
theorem dX12_isAmong_38 : decode cX12_isAmong 38 = .ok (.iconst 1, 1) := by decide +kernel
theorem dX12_isAmong_39 : decode cX12_isAmong 39 = .ok (.goto 4, 3) := by decide +kernel
theorem dX12_isAmong_42 : decode cX12_isAmong 42 = .ok (.iconst 0, 1) := by decide +kernel
theorem dX12_isAmong_43 : decode cX12_isAmong 43 = .ok (.ireturn, 1) := by decide +kernel
set_option maxRecDepth 20000 in
theorem ggX12_decide_X12_isAmong : GoodIn wsX12_decide wsX12_isAmong := goodIn_r _ [8, 2, 9, 10, 11, 7, 12, 43, 44, 45, 46, 47, 48, 49, 50, 51, 52, 53, 54] (by decide +kernel) (by decide +kernel)
set_option maxRecDepth 20000 in
theorem gX12_decide_X12_isAmong : GoodIn wsX12_decide (wsV RX12 137 RX12 yX12_isAmong wsX12_isAmong) := goodIn_app (goodIn_of _ (by decide +kernel)) ggX12_decide_X12_isAmong
set_option maxRecDepth 20000 in
theorem ggX12_decide_X12_scoreFor : GoodIn wsX12_decide wsX12_scoreFor := goodIn_r _ [16, 17, 18, 19, 7, 20, 2, 21, 22, 23, 24, 25, 26, 27, 28, 29, 30, 31, 32, 33, 34, 35, 36, 37, 38, 39, 9, 10, 11, 12, 40, 41, 42, 43, 44, 45, 46, 47, 48, 49, 50, 51, 52, 53, 54] (by decide +kernel) (by decide +kernel)
set_option maxRecDepth 20000 in
theorem gX12_decide_X12_scoreFor : GoodIn wsX12_decide (wsV RX12 140 RX12 yX12_scoreFor wsX12_scoreFor) := goodIn_app (goodIn_of _ (by decide +kernel)) ggX12_decide_X12_scoreFor
theorem dX12_decide_0 : decode cX12_decide 0 = .ok (.iconst 0, 1) := by decide +kernel
theorem dX12_decide_1 : decode cX12_decide 1 = .ok (.istore_n 3, 1) := by decide +kernel
theorem dX12_decide_2 : decode cX12_decide 2 = .ok (.iload_n 3, 1) := by decide +kernel
theorem dX12_decide_3 : decode cX12_decide 3 = .ok (.iconst 3, 1) := by decide +kernel
theorem dX12_decide_4 : decode cX12_decide 4 = .ok (.if_icmp .ge 16, 3) := by decide +kernel
theorem dX12_decide_7 : decode cX12_decide 7 = .ok (.aload_n 0, 1) := by decide +kernel
theorem dX12_decide_8 : decode cX12_decide 8 = .ok (.getfield 22, 3) := by decide +kernel
theorem dX12_decide_11 : decode cX12_decide 11 = .ok (.iload_n 3, 1) := by decide +kernel
theorem dX12_decide_12 : decode cX12_decide 12 = .ok (.iconst 0, 1) := by decide +kernel
theorem dX12_decide_13 : decode cX12_decide 13 = .ok (.iastore, 1) := by decide +kernel
theorem dX12_decide_14 : decode cX12_decide 14 = .ok (.iinc 3 1, 3) := by decide +kernel
theorem dX12_decide_17 : decode cX12_decide 17 = .ok (.goto (-15), 3) := by decide +kernel
theorem dX12_decide_20 : decode cX12_decide 20 = .ok (.iconst 0, 1) := by decide +kernel
theorem dX12_decide_21 : decode cX12_decide 21 = .ok (.istore_n 3, 1) := by decide +kernel
theorem dX12_decide_22 : decode cX12_decide 22 = .ok (.iload_n 3, 1) := by decide +kernel
theorem dX12_decide_23 : decode cX12_decide 23 = .ok (.aload_n 0, 1) := by decide +kernel
theorem dX12_decide_24 : decode cX12_decide 24 = .ok (.getfield 7, 3) := by decide +kernel
theorem dX12_decide_27 : decode cX12_decide 27 = .ok (.bipush 6, 2) := by decide +kernel
theorem dX12_decide_29 : decode cX12_decide 29 = .ok (.iaload, 1) := by decide +kernel
theorem dX12_decide_30 : decode cX12_decide 30 = .ok (.if_icmp .ge 175, 3) := by decide +kernel
theorem dX12_decide_33 : decode cX12_decide 33 = .ok (.iconst 0, 1) := by decide +kernel
theorem dX12_decide_34 : decode cX12_decide 34 = .ok (.istore 4, 2) := by decide +kernel
theorem dX12_decide_36 : decode cX12_decide 36 = .ok (.iconst 0, 1) := by decide +kernel
theorem dX12_decide_37 : decode cX12_decide 37 = .ok (.istore 5, 2) := by decide +kernel
theorem dX12_decide_39 : decode cX12_decide 39 = .ok (.iconst 0, 1) := by decide +kernel
theorem dX12_decide_40 : decode cX12_decide 40 = .ok (.istore 6, 2) := by decide +kernel
theorem dX12_decide_42 : decode cX12_decide 42 = .ok (.iload 6, 2) := by decide +kernel
theorem dX12_decide_44 : decode cX12_decide 44 = .ok (.aload_n 0, 1) := by decide +kernel
theorem dX12_decide_45 : decode cX12_decide 45 = .ok (.getfield 7, 3) := by decide +kernel
theorem dX12_decide_48 : decode cX12_decide 48 = .ok (.bipush 6, 2) := by decide +kernel
theorem dX12_decide_50 : decode cX12_decide 50 = .ok (.iaload, 1) := by decide +kernel
theorem dX12_decide_51 : decode cX12_decide 51 = .ok (.if_icmp .ge 80, 3) := by decide +kernel
theorem dX12_decide_54 : decode cX12_decide 54 = .ok (.aload_n 0, 1) := by decide +kernel
theorem dX12_decide_55 : decode cX12_decide 55 = .ok (.iload_n 1, 1) := by decide +kernel
theorem dX12_decide_56 : decode cX12_decide 56 = .ok (.iload 6, 2) := by decide +kernel
theorem dX12_decide_58 : decode cX12_decide 58 = .ok (.invokevirtual 137, 3) := by decide +kernel
theorem dX12_decide_61 : decode cX12_decide 61 = .ok (.istore 7, 2) := by decide +kernel
theorem dX12_decide_63 : decode cX12_decide 63 = .ok (.iload 4, 2) := by decide +kernel
theorem dX12_decide_65 : decode cX12_decide 65 = .ok (.iload 7, 2) := by decide +kernel
theorem dX12_decide_67 : decode cX12_decide 67 = .ok (.ifCond .eq 23, 3) := by decide +kernel
theorem dX12_decide_70 : decode cX12_decide 70 = .ok (.aload_n 0, 1) := by decide +kernel
theorem dX12_decide_71 : decode cX12_decide 71 = .ok (.iload_n 1, 1) := by decide +kernel
theorem dX12_decide_72 : decode cX12_decide 72 = .ok (.iload 6, 2) := by decide +kernel
theorem dX12_decide_74 : decode cX12_decide 74 = .ok (.invokevirtual 140, 3) := by decide +kernel
theorem dX12_decide_77 : decode cX12_decide 77 = .ok (.aload_n 0, 1) := by decide +kernel
theorem dX12_decide_78 : decode cX12_decide 78 = .ok (.iload_n 1, 1) := by decide +kernel
theorem dX12_decide_79 : decode cX12_decide 79 = .ok (.iload_n 3, 1) := by decide +kernel
theorem dX12_decide_80 : decode cX12_decide 80 = .ok (.invokevirtual 140, 3) := by decide +kernel
theorem dX12_decide_83 : decode cX12_decide 83 = .ok (.if_icmp .le 7, 3) := by decide +kernel
theorem dX12_decide_86 : decode cX12_decide 86 = .ok (.iconst 1, 1) := by decide +kernel
theorem dX12_decide_87 : decode cX12_decide 87 = .ok (.goto 4, 3) := by decide +kernel
theorem dX12_decide_90 : decode cX12_decide 90 = .ok (.iconst 0, 1) := by decide +kernel
theorem dX12_decide_91 : decode cX12_decide 91 = .ok (.iadd, 1) := by decide +kernel
theorem dX12_decide_92 : decode cX12_decide 92 = .ok (.istore 4, 2) := by decide +kernel
theorem dX12_decide_94 : decode cX12_decide 94 = .ok (.iload 5, 2) := by decide +kernel
theorem dX12_decide_96 : decode cX12_decide 96 = .ok (.iload 7, 2) := by decide +kernel
theorem dX12_decide_98 : decode cX12_decide 98 = .ok (.ifCond .eq 23, 3) := by decide +kernel
theorem dX12_decide_101 : decode cX12_decide 101 = .ok (.aload_n 0, 1) := by decide +kernel
theorem dX12_decide_102 : decode cX12_decide 102 = .ok (.iload_n 1, 1) := by decide +kernel
theorem dX12_decide_103 : decode cX12_decide 103 = .ok (.iload 6, 2) := by decide +kernel
theorem dX12_decide_105 : decode cX12_decide 105 = .ok (.invokevirtual 140, 3) := by decide +kernel
theorem dX12_decide_108 : decode cX12_decide 108 = .ok (.aload_n 0, 1) := by decide +kernel
theorem dX12_decide_109 : decode cX12_decide 109 = .ok (.iload_n 1, 1) := by decide +kernel
theorem dX12_decide_110 : decode cX12_decide 110 = .ok (.iload_n 3, 1) := by decide +kernel
theorem dX12_decide_111 : decode cX12_decide 111 = .ok (.invokevirtual 140, 3) := by decide +kernel
theorem dX12_decide_114 : decode cX12_decide 114 = .ok (.if_icmp .ne 7, 3) := by decide +kernel
theorem dX12_decide_117 : decode cX12_decide 117 = .ok (.iconst 1, 1) := by decide +kernel
theorem dX12_decide_118 : decode cX12_decide 118 = .ok (.goto 4, 3) := by decide +kernel
theorem dX12_decide_121 : decode cX12_decide 121 = .ok (.iconst 0, 1) := by decide +kernel
theorem dX12_decide_122 : decode cX12_decide 122 = .ok (.iadd, 1) := by decide +kernel
theorem dX12_decide_123 : decode cX12_decide 123 = .ok (.istore 5, 2) := by decide +kernel
theorem dX12_decide_125 : decode cX12_decide 125 = .ok (.iinc 6 1, 3) := by decide +kernel
theorem dX12_decide_128 : decode cX12_decide 128 = .ok (.goto (-86), 3) := by decide +kernel
theorem dX12_decide_131 : decode cX12_decide 131 = .ok (.aload_n 0, 1) := by decide +kernel
theorem dX12_decide_132 : decode cX12_decide 132 = .ok (.getfield 19, 3) := by decide +kernel
theorem dX12_decide_135 : decode cX12_decide 135 = .ok (.iload_n 3, 1) := by decide +kernel
theorem dX12_decide_136 : decode cX12_decide 136 = .ok (.aload_n 0, 1) := by decide +kernel
theorem dX12_decide_137 : decode cX12_decide 137 = .ok (.iload_n 1, 1) := by decide +kernel
theorem dX12_decide_138 : decode cX12_decide 138 = .ok (.iload_n 3, 1) := by decide +kernel
theorem dX12_decide_139 : decode cX12_decide 139 = .ok (.invokevirtual 137, 3) := by decide +kernel
theorem dX12_decide_142 : decode cX12_decide 142 = .ok (.ifCond .ne 7, 3) := by decide +kernel
theorem dX12_decide_145 : decode cX12_decide 145 = .ok (.iconst (-1), 1) := by decide +kernel
theorem dX12_decide_146 : decode cX12_decide 146 = .ok (.goto 27, 3) := by decide +kernel
theorem dX12_decide_149 : decode cX12_decide 149 = .ok (.iload 4, 2) := by decide +kernel
theorem dX12_decide_151 : decode cX12_decide 151 = .ok (.iload 5, 2) := by decide +kernel
theorem dX12_decide_153 : decode cX12_decide 153 = .ok (.iadd, 1) := by decide +kernel
theorem dX12_decide_154 : decode cX12_decide 154 = .ok (.iload_n 2, 1) := by decide +kernel
theorem dX12_decide_155 : decode cX12_decide 155 = .ok (.if_icmp .gt 7, 3) := by decide +kernel
theorem dX12_decide_158 : decode cX12_decide 158 = .ok (.iconst 0, 1) := by decide +kernel
theorem dX12_decide_159 : decode cX12_decide 159 = .ok (.goto 14, 3) := by decide +kernel
theorem dX12_decide_162 : decode cX12_decide 162 = .ok (.iload 4, 2) := by decide +kernel
theorem dX12_decide_164 : decode cX12_decide 164 = .ok (.iload_n 2, 1) := by decide +kernel
theorem dX12_decide_165 : decode cX12_decide 165 = .ok (.if_icmp .ge 7, 3) := by decide +kernel
theorem dX12_decide_168 : decode cX12_decide 168 = .ok (.iconst 1, 1) := by decide +kernel
theorem dX12_decide_169 : decode cX12_decide 169 = .ok (.goto 4, 3) := by decide +kernel
theorem dX12_decide_172 : decode cX12_decide 172 = .ok (.iconst 2, 1) := by decide +kernel
theorem dX12_decide_173 : decode cX12_decide 173 = .ok (.iastore, 1) := by decide +kernel
theorem dX12_decide_174 : decode cX12_decide 174 = .ok (.aload_n 0, 1) := by decide +kernel
theorem dX12_decide_175 : decode cX12_decide 175 = .ok (.getfield 19, 3) := by decide +kernel
theorem dX12_decide_178 : decode cX12_decide 178 = .ok (.iload_n 3, 1) := by decide +kernel
theorem dX12_decide_179 : decode cX12_decide 179 = .ok (.iaload, 1) := by decide +kernel
theorem dX12_decide_180 : decode cX12_decide 180 = .ok (.iconst (-1), 1) := by decide +kernel
theorem dX12_decide_181 : decode cX12_decide 181 = .ok (.if_icmp .eq 18, 3) := by decide +kernel
theorem dX12_decide_184 : decode cX12_decide 184 = .ok (.aload_n 0, 1) := by decide +kernel
theorem dX12_decide_185 : decode cX12_decide 185 = .ok (.getfield 22, 3) := by decide +kernel
theorem dX12_decide_188 : decode cX12_decide 188 = .ok (.aload_n 0, 1) := by decide +kernel
theorem dX12_decide_189 : decode cX12_decide 189 = .ok (.getfield 19, 3) := by decide +kernel
theorem dX12_decide_192 : decode cX12_decide 192 = .ok (.iload_n 3, 1) := by decide +kernel
theorem dX12_decide_193 : decode cX12_decide 193 = .ok (.iaload, 1) := by decide +kernel
theorem dX12_decide_194 : decode cX12_decide 194 = .ok (.dup2, 1) := by decide +kernel
theorem dX12_decide_195 : decode cX12_decide 195 = .ok (.iaload, 1) := by decide +kernel
theorem dX12_decide_196 : decode cX12_decide 196 = .ok (.iconst 1, 1) := by decide +kernel
theorem dX12_decide_197 : decode cX12_decide 197 = .ok (.iadd, 1) := by decide +kernel
theorem dX12_decide_198 : decode cX12_decide 198 = .ok (.iastore, 1) := by decide +kernel
theorem dX12_decide_199 : decode cX12_decide 199 = .ok (.iinc 3 1, 3) := by decide +kernel
theorem dX12_decide_202 : decode cX12_decide 202 = .ok (.goto (-180), 3) := by decide +kernel
theorem dX12_decide_205 : decode cX12_decide 205 = .ok (.return_, 1) := by decide +kernel
set_option maxRecDepth 20000 in
theorem ggX12_isClosable_X12_placeOf : GoodIn wsX12_isClosable wsX12_placeOf := goodIn_r _ [6, 1, 37, 38, 39, 40, 41, 42, 43, 44, 45, 46, 47, 48] (by decide +kernel) (by decide +kernel)
set_option maxRecDepth 20000 in
theorem gX12_isClosable_X12_placeOf : GoodIn wsX12_isClosable (wsV RX12 106 RX12 yX12_placeOf wsX12_placeOf) := goodIn_app (goodIn_of _ (by decide +kernel)) ggX12_isClosable_X12_placeOf
set_option maxRecDepth 20000 in
theorem ggX12_isClosable_X12_isComplete : GoodIn wsX12_isClosable wsX12_isComplete := goodIn_r _ [10, 11, 12, 13, 5, 14, 1, 2, 3, 4, 6, 15, 16, 17, 18, 19, 20, 21, 22, 23, 24, 25, 26, 27, 28, 29, 30, 31, 32, 33, 34, 35, 36, 37, 38, 39, 40, 41, 42, 43, 44, 45, 46, 47, 48] (by decide +kernel) (by decide +kernel)
set_option maxRecDepth 20000 in
theorem gX12_isClosable_X12_isComplete : GoodIn wsX12_isClosable (wsV RX12 143 RX12 yX12_isComplete wsX12_isComplete) := goodIn_app (goodIn_of _ (by decide +kernel)) ggX12_isClosable_X12_isComplete
set_option maxRecDepth 20000 in
theorem ggX12_isClosable_X12_isMarked : GoodIn wsX12_isClosable wsX12_isMarked := goodIn_r _ [21, 1, 22, 23, 24, 5, 25, 26, 27, 28, 29, 30, 31, 32, 33, 34, 35, 36, 37, 38, 39, 40, 41, 42, 43, 44, 45, 46, 47, 48] (by decide +kernel) (by decide +kernel)
set_option maxRecDepth 20000 in
theorem gX12_isClosable_X12_isMarked : GoodIn wsX12_isClosable (wsV RX12 125 RX12 yX12_isMarked wsX12_isMarked) := goodIn_app (goodIn_of _ (by decide +kernel)) ggX12_isClosable_X12_isMarked
theorem dX12_isClosable_0 : decode cX12_isClosable 0 = .ok (.aload_n 0, 1) := by decide +kernel
theorem dX12_isClosable_1 : decode cX12_isClosable 1 = .ok (.getfield 7, 3) := by decide +kernel
theorem dX12_isClosable_4 : decode cX12_isClosable 4 = .ok (.iconst 3, 1) := by decide +kernel
theorem dX12_isClosable_5 : decode cX12_isClosable 5 = .ok (.iaload, 1) := by decide +kernel
theorem dX12_isClosable_6 : decode cX12_isClosable 6 = .ok (.iconst 1, 1) := by decide +kernel
theorem dX12_isClosable_7 : decode cX12_isClosable 7 = .ok (.if_icmp .eq 13, 3) := by decide +kernel
theorem dX12_isClosable_10 : decode cX12_isClosable 10 = .ok (.aload_n 0, 1) := by decide +kernel
theorem dX12_isClosable_11 : decode cX12_isClosable 11 = .ok (.getfield 7, 3) := by decide +kernel
theorem dX12_isClosable_14 : decode cX12_isClosable 14 = .ok (.iconst 3, 1) := by decide +kernel
theorem dX12_isClosable_15 : decode cX12_isClosable 15 = .ok (.iaload, 1) := by decide +kernel
theorem dX12_isClosable_16 : decode cX12_isClosable 16 = .ok (.iconst 2, 1) := by decide +kernel
theorem dX12_isClosable_17 : decode cX12_isClosable 17 = .ok (.if_icmp .ne 7, 3) := by decide +kernel
theorem dX12_isClosable_20 : decode cX12_isClosable 20 = .ok (.iconst 1, 1) := by decide +kernel
theorem dX12_isClosable_21 : decode cX12_isClosable 21 = .ok (.goto 4, 3) := by decide +kernel
theorem dX12_isClosable_24 : decode cX12_isClosable 24 = .ok (.iconst 0, 1) := by decide +kernel
theorem dX12_isClosable_25 : decode cX12_isClosable 25 = .ok (.istore_n 1, 1) := by decide +kernel
theorem dX12_isClosable_26 : decode cX12_isClosable 26 = .ok (.iconst 0, 1) := by decide +kernel
theorem dX12_isClosable_27 : decode cX12_isClosable 27 = .ok (.istore_n 2, 1) := by decide +kernel
theorem dX12_isClosable_28 : decode cX12_isClosable 28 = .ok (.iload_n 2, 1) := by decide +kernel
theorem dX12_isClosable_29 : decode cX12_isClosable 29 = .ok (.aload_n 0, 1) := by decide +kernel
theorem dX12_isClosable_30 : decode cX12_isClosable 30 = .ok (.getfield 7, 3) := by decide +kernel
theorem dX12_isClosable_33 : decode cX12_isClosable 33 = .ok (.bipush 6, 2) := by decide +kernel
theorem dX12_isClosable_35 : decode cX12_isClosable 35 = .ok (.iaload, 1) := by decide +kernel
theorem dX12_isClosable_36 : decode cX12_isClosable 36 = .ok (.if_icmp .ge 73, 3) := by decide +kernel
theorem dX12_isClosable_39 : decode cX12_isClosable 39 = .ok (.iload_n 1, 1) := by decide +kernel
theorem dX12_isClosable_40 : decode cX12_isClosable 40 = .ok (.ifCond .eq 61, 3) := by decide +kernel
theorem dX12_isClosable_43 : decode cX12_isClosable 43 = .ok (.aload_n 0, 1) := by decide +kernel
theorem dX12_isClosable_44 : decode cX12_isClosable 44 = .ok (.getfield 7, 3) := by decide +kernel
theorem dX12_isClosable_47 : decode cX12_isClosable 47 = .ok (.iconst 3, 1) := by decide +kernel
theorem dX12_isClosable_48 : decode cX12_isClosable 48 = .ok (.iaload, 1) := by decide +kernel
theorem dX12_isClosable_49 : decode cX12_isClosable 49 = .ok (.iconst 1, 1) := by decide +kernel
theorem dX12_isClosable_50 : decode cX12_isClosable 50 = .ok (.if_icmp .ne 23, 3) := by decide +kernel
theorem dX12_isClosable_53 : decode cX12_isClosable 53 = .ok (.aload_n 0, 1) := by decide +kernel
theorem dX12_isClosable_54 : decode cX12_isClosable 54 = .ok (.iload_n 2, 1) := by decide +kernel
theorem dX12_isClosable_55 : decode cX12_isClosable 55 = .ok (.invokevirtual 106, 3) := by decide +kernel
theorem dX12_isClosable_58 : decode cX12_isClosable 58 = .ok (.iconst (-1), 1) := by decide +kernel
theorem dX12_isClosable_59 : decode cX12_isClosable 59 = .ok (.if_icmp .eq 38, 3) := by decide +kernel
theorem dX12_isClosable_62 : decode cX12_isClosable 62 = .ok (.aload_n 0, 1) := by decide +kernel
theorem dX12_isClosable_63 : decode cX12_isClosable 63 = .ok (.iload_n 2, 1) := by decide +kernel
theorem dX12_isClosable_64 : decode cX12_isClosable 64 = .ok (.invokevirtual 143, 3) := by decide +kernel
theorem dX12_isClosable_67 : decode cX12_isClosable 67 = .ok (.ifCond .eq 34, 3) := by decide +kernel
theorem dX12_isClosable_70 : decode cX12_isClosable 70 = .ok (.goto 27, 3) := by decide +kernel
theorem dX12_isClosable_73 : decode cX12_isClosable 73 = .ok (.aload_n 0, 1) := by decide +kernel
theorem dX12_isClosable_74 : decode cX12_isClosable 74 = .ok (.getfield 7, 3) := by decide +kernel
theorem dX12_isClosable_77 : decode cX12_isClosable 77 = .ok (.sipush 654, 3) := by decide +kernel
theorem dX12_isClosable_80 : decode cX12_isClosable 80 = .ok (.iload_n 2, 1) := by decide +kernel
theorem dX12_isClosable_81 : decode cX12_isClosable 81 = .ok (.iadd, 1) := by decide +kernel
theorem dX12_isClosable_82 : decode cX12_isClosable 82 = .ok (.iaload, 1) := by decide +kernel
theorem dX12_isClosable_83 : decode cX12_isClosable 83 = .ok (.ifCond .eq 14, 3) := by decide +kernel
theorem dX12_isClosable_86 : decode cX12_isClosable 86 = .ok (.aload_n 0, 1) := by decide +kernel
theorem dX12_isClosable_87 : decode cX12_isClosable 87 = .ok (.sipush 570, 3) := by decide +kernel
theorem dX12_isClosable_90 : decode cX12_isClosable 90 = .ok (.iload_n 2, 1) := by decide +kernel
theorem dX12_isClosable_91 : decode cX12_isClosable 91 = .ok (.invokevirtual 125, 3) := by decide +kernel
theorem dX12_isClosable_94 : decode cX12_isClosable 94 = .ok (.ifCond .eq 7, 3) := by decide +kernel
theorem dX12_isClosable_97 : decode cX12_isClosable 97 = .ok (.iconst 1, 1) := by decide +kernel
theorem dX12_isClosable_98 : decode cX12_isClosable 98 = .ok (.goto 4, 3) := by decide +kernel
theorem dX12_isClosable_101 : decode cX12_isClosable 101 = .ok (.iconst 0, 1) := by decide +kernel
theorem dX12_isClosable_102 : decode cX12_isClosable 102 = .ok (.istore_n 1, 1) := by decide +kernel
theorem dX12_isClosable_103 : decode cX12_isClosable 103 = .ok (.iinc 2 1, 3) := by decide +kernel
theorem dX12_isClosable_106 : decode cX12_isClosable 106 = .ok (.goto (-78), 3) := by decide +kernel
theorem dX12_isClosable_109 : decode cX12_isClosable 109 = .ok (.iload_n 1, 1) := by decide +kernel
theorem dX12_isClosable_110 : decode cX12_isClosable 110 = .ok (.ireturn, 1) := by decide +kernel
set_option maxRecDepth 20000 in
theorem ggX12_settle_X12_clearTie : GoodIn wsX12_settle wsX12_clearTie := goodIn_r _ [8, 2, 43, 44, 45, 46, 47, 48, 49, 50, 51, 52, 53, 54] (by decide +kernel) (by decide +kernel)
set_option maxRecDepth 20000 in
theorem gX12_settle_X12_clearTie : GoodIn wsX12_settle (wsV RX12 89 RX12 yX12_clearTie wsX12_clearTie) := goodIn_app (goodIn_of _ (by decide +kernel)) ggX12_settle_X12_clearTie
set_option maxRecDepth 20000 in
theorem ggX12_settle_X12_beginRound : GoodIn wsX12_settle wsX12_beginRound := goodIn_r _ [12, 2, 13, 14, 15, 7, 16, 4, 5, 6, 8, 17, 18, 19, 20, 21, 22, 23, 24, 25, 26, 27, 28, 29, 30, 31, 32, 33, 34, 35, 36, 37, 38, 39, 40, 41, 42, 43, 44, 45, 46, 47, 48, 49, 50, 51, 52, 53, 54] (by decide +kernel) (by decide +kernel)
set_option maxRecDepth 20000 in
theorem gX12_settle_X12_beginRound : GoodIn wsX12_settle (wsV RX12 102 RX12 yX12_beginRound wsX12_beginRound) := goodIn_app (goodIn_of _ (by decide +kernel)) ggX12_settle_X12_beginRound
theorem dX12_settle_0 : decode cX12_settle 0 = .ok (.iload_n 1, 1) := by decide +kernel
theorem dX12_settle_1 : decode cX12_settle 1 = .ok (.aload_n 0, 1) := by decide +kernel
theorem dX12_settle_2 : decode cX12_settle 2 = .ok (.getfield 22, 3) := by decide +kernel
theorem dX12_settle_5 : decode cX12_settle 5 = .ok (.iconst 0, 1) := by decide +kernel
theorem dX12_settle_6 : decode cX12_settle 6 = .ok (.iaload, 1) := by decide +kernel
theorem dX12_settle_7 : decode cX12_settle 7 = .ok (.isub, 1) := by decide +kernel
theorem dX12_settle_8 : decode cX12_settle 8 = .ok (.istore_n 2, 1) := by decide +kernel
theorem dX12_settle_9 : decode cX12_settle 9 = .ok (.aload_n 0, 1) := by decide +kernel
theorem dX12_settle_10 : decode cX12_settle 10 = .ok (.getfield 7, 3) := by decide +kernel
theorem dX12_settle_13 : decode cX12_settle 13 = .ok (.bipush 10, 2) := by decide +kernel
theorem dX12_settle_15 : decode cX12_settle 15 = .ok (.iaload, 1) := by decide +kernel
theorem dX12_settle_16 : decode cX12_settle 16 = .ok (.iconst 3, 1) := by decide +kernel
theorem dX12_settle_17 : decode cX12_settle 17 = .ok (.if_icmp .ne 7, 3) := by decide +kernel
theorem dX12_settle_20 : decode cX12_settle 20 = .ok (.iconst 1, 1) := by decide +kernel
theorem dX12_settle_21 : decode cX12_settle 21 = .ok (.goto 4, 3) := by decide +kernel
theorem dX12_settle_24 : decode cX12_settle 24 = .ok (.iconst 0, 1) := by decide +kernel
theorem dX12_settle_25 : decode cX12_settle 25 = .ok (.istore_n 3, 1) := by decide +kernel
theorem dX12_settle_26 : decode cX12_settle 26 = .ok (.iconst 0, 1) := by decide +kernel
theorem dX12_settle_27 : decode cX12_settle 27 = .ok (.istore 4, 2) := by decide +kernel
theorem dX12_settle_29 : decode cX12_settle 29 = .ok (.iload 4, 2) := by decide +kernel
theorem dX12_settle_31 : decode cX12_settle 31 = .ok (.aload_n 0, 1) := by decide +kernel
theorem dX12_settle_32 : decode cX12_settle 32 = .ok (.getfield 7, 3) := by decide +kernel
theorem dX12_settle_35 : decode cX12_settle 35 = .ok (.bipush 7, 2) := by decide +kernel
theorem dX12_settle_37 : decode cX12_settle 37 = .ok (.iaload, 1) := by decide +kernel
theorem dX12_settle_38 : decode cX12_settle 38 = .ok (.if_icmp .ge 101, 3) := by decide +kernel
theorem dX12_settle_41 : decode cX12_settle 41 = .ok (.aload_n 0, 1) := by decide +kernel
theorem dX12_settle_42 : decode cX12_settle 42 = .ok (.getfield 7, 3) := by decide +kernel
theorem dX12_settle_45 : decode cX12_settle 45 = .ok (.sipush 462, 3) := by decide +kernel
theorem dX12_settle_48 : decode cX12_settle 48 = .ok (.iload 4, 2) := by decide +kernel
theorem dX12_settle_50 : decode cX12_settle 50 = .ok (.iadd, 1) := by decide +kernel
theorem dX12_settle_51 : decode cX12_settle 51 = .ok (.iaload, 1) := by decide +kernel
theorem dX12_settle_52 : decode cX12_settle 52 = .ok (.istore 5, 2) := by decide +kernel
theorem dX12_settle_54 : decode cX12_settle 54 = .ok (.iload_n 3, 1) := by decide +kernel
theorem dX12_settle_55 : decode cX12_settle 55 = .ok (.ifCond .eq 43, 3) := by decide +kernel
theorem dX12_settle_58 : decode cX12_settle 58 = .ok (.aload_n 0, 1) := by decide +kernel
theorem dX12_settle_59 : decode cX12_settle 59 = .ok (.getfield 19, 3) := by decide +kernel
theorem dX12_settle_62 : decode cX12_settle 62 = .ok (.iload 5, 2) := by decide +kernel
theorem dX12_settle_64 : decode cX12_settle 64 = .ok (.iaload, 1) := by decide +kernel
theorem dX12_settle_65 : decode cX12_settle 65 = .ok (.iconst 1, 1) := by decide +kernel
theorem dX12_settle_66 : decode cX12_settle 66 = .ok (.if_icmp .ne 32, 3) := by decide +kernel
theorem dX12_settle_69 : decode cX12_settle 69 = .ok (.aload_n 0, 1) := by decide +kernel
theorem dX12_settle_70 : decode cX12_settle 70 = .ok (.getfield 19, 3) := by decide +kernel
theorem dX12_settle_73 : decode cX12_settle 73 = .ok (.iload 5, 2) := by decide +kernel
theorem dX12_settle_75 : decode cX12_settle 75 = .ok (.iload_n 2, 1) := by decide +kernel
theorem dX12_settle_76 : decode cX12_settle 76 = .ok (.ifCond .le 7, 3) := by decide +kernel
theorem dX12_settle_79 : decode cX12_settle 79 = .ok (.iconst 0, 1) := by decide +kernel
theorem dX12_settle_80 : decode cX12_settle 80 = .ok (.goto 4, 3) := by decide +kernel
theorem dX12_settle_83 : decode cX12_settle 83 = .ok (.iconst 2, 1) := by decide +kernel
theorem dX12_settle_84 : decode cX12_settle 84 = .ok (.iastore, 1) := by decide +kernel
theorem dX12_settle_85 : decode cX12_settle 85 = .ok (.iinc 2 (-1), 3) := by decide +kernel
theorem dX12_settle_88 : decode cX12_settle 88 = .ok (.aload_n 0, 1) := by decide +kernel
theorem dX12_settle_89 : decode cX12_settle 89 = .ok (.getfield 22, 3) := by decide +kernel
theorem dX12_settle_92 : decode cX12_settle 92 = .ok (.iconst 1, 1) := by decide +kernel
theorem dX12_settle_93 : decode cX12_settle 93 = .ok (.dup2, 1) := by decide +kernel
theorem dX12_settle_94 : decode cX12_settle 94 = .ok (.iaload, 1) := by decide +kernel
theorem dX12_settle_95 : decode cX12_settle 95 = .ok (.iconst 1, 1) := by decide +kernel
theorem dX12_settle_96 : decode cX12_settle 96 = .ok (.isub, 1) := by decide +kernel
theorem dX12_settle_97 : decode cX12_settle 97 = .ok (.iastore, 1) := by decide +kernel
theorem dX12_settle_98 : decode cX12_settle 98 = .ok (.aload_n 0, 1) := by decide +kernel
theorem dX12_settle_99 : decode cX12_settle 99 = .ok (.getfield 7, 3) := by decide +kernel
theorem dX12_settle_102 : decode cX12_settle 102 = .ok (.bipush 126, 2) := by decide +kernel
theorem dX12_settle_104 : decode cX12_settle 104 = .ok (.iload 5, 2) := by decide +kernel
theorem dX12_settle_106 : decode cX12_settle 106 = .ok (.iadd, 1) := by decide +kernel
theorem dX12_settle_107 : decode cX12_settle 107 = .ok (.aload_n 0, 1) := by decide +kernel
theorem dX12_settle_108 : decode cX12_settle 108 = .ok (.getfield 19, 3) := by decide +kernel
theorem dX12_settle_111 : decode cX12_settle 111 = .ok (.iload 5, 2) := by decide +kernel
theorem dX12_settle_113 : decode cX12_settle 113 = .ok (.iaload, 1) := by decide +kernel
theorem dX12_settle_114 : decode cX12_settle 114 = .ok (.iconst 2, 1) := by decide +kernel
theorem dX12_settle_115 : decode cX12_settle 115 = .ok (.if_icmp .ne 7, 3) := by decide +kernel
theorem dX12_settle_118 : decode cX12_settle 118 = .ok (.iconst 0, 1) := by decide +kernel
theorem dX12_settle_119 : decode cX12_settle 119 = .ok (.goto 13, 3) := by decide +kernel
theorem dX12_settle_122 : decode cX12_settle 122 = .ok (.aload_n 0, 1) := by decide +kernel
theorem dX12_settle_123 : decode cX12_settle 123 = .ok (.getfield 7, 3) := by decide +kernel
theorem dX12_settle_126 : decode cX12_settle 126 = .ok (.bipush 126, 2) := by decide +kernel
theorem dX12_settle_128 : decode cX12_settle 128 = .ok (.iload 5, 2) := by decide +kernel
theorem dX12_settle_130 : decode cX12_settle 130 = .ok (.iadd, 1) := by decide +kernel
theorem dX12_settle_131 : decode cX12_settle 131 = .ok (.iaload, 1) := by decide +kernel
theorem dX12_settle_132 : decode cX12_settle 132 = .ok (.iastore, 1) := by decide +kernel
theorem dX12_settle_133 : decode cX12_settle 133 = .ok (.iinc 4 1, 3) := by decide +kernel
theorem dX12_settle_136 : decode cX12_settle 136 = .ok (.goto (-107), 3) := by decide +kernel
theorem dX12_settle_139 : decode cX12_settle 139 = .ok (.aload_n 0, 1) := by decide +kernel
theorem dX12_settle_140 : decode cX12_settle 140 = .ok (.getfield 7, 3) := by decide +kernel
theorem dX12_settle_143 : decode cX12_settle 143 = .ok (.bipush 10, 2) := by decide +kernel
theorem dX12_settle_145 : decode cX12_settle 145 = .ok (.iaload, 1) := by decide +kernel
theorem dX12_settle_146 : decode cX12_settle 146 = .ok (.iconst 1, 1) := by decide +kernel
theorem dX12_settle_147 : decode cX12_settle 147 = .ok (.iadd, 1) := by decide +kernel
theorem dX12_settle_148 : decode cX12_settle 148 = .ok (.istore 4, 2) := by decide +kernel
theorem dX12_settle_150 : decode cX12_settle 150 = .ok (.aload_n 0, 1) := by decide +kernel
theorem dX12_settle_151 : decode cX12_settle 151 = .ok (.invokevirtual 89, 3) := by decide +kernel
theorem dX12_settle_154 : decode cX12_settle 154 = .ok (.aload_n 0, 1) := by decide +kernel
theorem dX12_settle_155 : decode cX12_settle 155 = .ok (.getfield 22, 3) := by decide +kernel
theorem dX12_settle_158 : decode cX12_settle 158 = .ok (.iconst 1, 1) := by decide +kernel
theorem dX12_settle_159 : decode cX12_settle 159 = .ok (.iaload, 1) := by decide +kernel
theorem dX12_settle_160 : decode cX12_settle 160 = .ok (.ifCond .le 78, 3) := by decide +kernel
theorem dX12_settle_163 : decode cX12_settle 163 = .ok (.aload_n 0, 1) := by decide +kernel
theorem dX12_settle_164 : decode cX12_settle 164 = .ok (.getfield 7, 3) := by decide +kernel
theorem dX12_settle_167 : decode cX12_settle 167 = .ok (.iconst 3, 1) := by decide +kernel
theorem dX12_settle_168 : decode cX12_settle 168 = .ok (.iconst 2, 1) := by decide +kernel
theorem dX12_settle_169 : decode cX12_settle 169 = .ok (.iastore, 1) := by decide +kernel
theorem dX12_settle_170 : decode cX12_settle 170 = .ok (.aload_n 0, 1) := by decide +kernel
theorem dX12_settle_171 : decode cX12_settle 171 = .ok (.getfield 7, 3) := by decide +kernel
theorem dX12_settle_174 : decode cX12_settle 174 = .ok (.bipush 10, 2) := by decide +kernel
theorem dX12_settle_176 : decode cX12_settle 176 = .ok (.iload 4, 2) := by decide +kernel
theorem dX12_settle_178 : decode cX12_settle 178 = .ok (.iastore, 1) := by decide +kernel
theorem dX12_settle_179 : decode cX12_settle 179 = .ok (.aload_n 0, 1) := by decide +kernel
theorem dX12_settle_180 : decode cX12_settle 180 = .ok (.getfield 7, 3) := by decide +kernel
theorem dX12_settle_183 : decode cX12_settle 183 = .ok (.bipush 9, 2) := by decide +kernel
theorem dX12_settle_185 : decode cX12_settle 185 = .ok (.iload_n 2, 1) := by decide +kernel
theorem dX12_settle_186 : decode cX12_settle 186 = .ok (.iastore, 1) := by decide +kernel
theorem dX12_settle_187 : decode cX12_settle 187 = .ok (.iconst 0, 1) := by decide +kernel
theorem dX12_settle_188 : decode cX12_settle 188 = .ok (.istore 5, 2) := by decide +kernel
theorem dX12_settle_190 : decode cX12_settle 190 = .ok (.iload 5, 2) := by decide +kernel
theorem dX12_settle_192 : decode cX12_settle 192 = .ok (.aload_n 0, 1) := by decide +kernel
theorem dX12_settle_193 : decode cX12_settle 193 = .ok (.getfield 7, 3) := by decide +kernel
theorem dX12_settle_196 : decode cX12_settle 196 = .ok (.bipush 6, 2) := by decide +kernel
theorem dX12_settle_198 : decode cX12_settle 198 = .ok (.iaload, 1) := by decide +kernel
theorem dX12_settle_199 : decode cX12_settle 199 = .ok (.if_icmp .ge 36, 3) := by decide +kernel
theorem dX12_settle_202 : decode cX12_settle 202 = .ok (.aload_n 0, 1) := by decide +kernel
theorem dX12_settle_203 : decode cX12_settle 203 = .ok (.getfield 7, 3) := by decide +kernel
theorem dX12_settle_206 : decode cX12_settle 206 = .ok (.sipush 654, 3) := by decide +kernel
theorem dX12_settle_209 : decode cX12_settle 209 = .ok (.iload 5, 2) := by decide +kernel
theorem dX12_settle_211 : decode cX12_settle 211 = .ok (.iadd, 1) := by decide +kernel
theorem dX12_settle_212 : decode cX12_settle 212 = .ok (.aload_n 0, 1) := by decide +kernel
theorem dX12_settle_213 : decode cX12_settle 213 = .ok (.getfield 19, 3) := by decide +kernel
theorem dX12_settle_216 : decode cX12_settle 216 = .ok (.iload 5, 2) := by decide +kernel
theorem dX12_settle_218 : decode cX12_settle 218 = .ok (.iaload, 1) := by decide +kernel
theorem dX12_settle_219 : decode cX12_settle 219 = .ok (.iconst 1, 1) := by decide +kernel
theorem dX12_settle_220 : decode cX12_settle 220 = .ok (.if_icmp .ne 7, 3) := by decide +kernel
theorem dX12_settle_223 : decode cX12_settle 223 = .ok (.iconst 1, 1) := by decide +kernel
theorem dX12_settle_224 : decode cX12_settle 224 = .ok (.goto 4, 3) := by decide +kernel
theorem dX12_settle_227 : decode cX12_settle 227 = .ok (.iconst 0, 1) := by decide +kernel
theorem dX12_settle_228 : decode cX12_settle 228 = .ok (.iastore, 1) := by decide +kernel
theorem dX12_settle_229 : decode cX12_settle 229 = .ok (.iinc 5 1, 3) := by decide +kernel
theorem dX12_settle_232 : decode cX12_settle 232 = .ok (.goto (-42), 3) := by decide +kernel
theorem dX12_settle_235 : decode cX12_settle 235 = .ok (.goto 42, 3) := by decide +kernel
theorem dX12_settle_238 : decode cX12_settle 238 = .ok (.aload_n 0, 1) := by decide +kernel
theorem dX12_settle_239 : decode cX12_settle 239 = .ok (.getfield 7, 3) := by decide +kernel
theorem dX12_settle_242 : decode cX12_settle 242 = .ok (.iconst 4, 1) := by decide +kernel
theorem dX12_settle_243 : decode cX12_settle 243 = .ok (.iaload, 1) := by decide +kernel
theorem dX12_settle_244 : decode cX12_settle 244 = .ok (.iconst 1, 1) := by decide +kernel
theorem dX12_settle_245 : decode cX12_settle 245 = .ok (.iadd, 1) := by decide +kernel
theorem dX12_settle_246 : decode cX12_settle 246 = .ok (.aload_n 0, 1) := by decide +kernel
theorem dX12_settle_247 : decode cX12_settle 247 = .ok (.getfield 7, 3) := by decide +kernel
theorem dX12_settle_250 : decode cX12_settle 250 = .ok (.iconst 1, 1) := by decide +kernel
theorem dX12_settle_251 : decode cX12_settle 251 = .ok (.iaload, 1) := by decide +kernel
theorem dX12_settle_252 : decode cX12_settle 252 = .ok (.if_icmp .ge 18, 3) := by decide +kernel
theorem dX12_settle_255 : decode cX12_settle 255 = .ok (.aload_n 0, 1) := by decide +kernel
theorem dX12_settle_256 : decode cX12_settle 256 = .ok (.aload_n 0, 1) := by decide +kernel
theorem dX12_settle_257 : decode cX12_settle 257 = .ok (.getfield 7, 3) := by decide +kernel
theorem dX12_settle_260 : decode cX12_settle 260 = .ok (.iconst 4, 1) := by decide +kernel
theorem dX12_settle_261 : decode cX12_settle 261 = .ok (.iaload, 1) := by decide +kernel
theorem dX12_settle_262 : decode cX12_settle 262 = .ok (.iconst 1, 1) := by decide +kernel
theorem dX12_settle_263 : decode cX12_settle 263 = .ok (.iadd, 1) := by decide +kernel
theorem dX12_settle_264 : decode cX12_settle 264 = .ok (.invokevirtual 102, 3) := by decide +kernel
theorem dX12_settle_267 : decode cX12_settle 267 = .ok (.goto 10, 3) := by decide +kernel
theorem dX12_settle_270 : decode cX12_settle 270 = .ok (.aload_n 0, 1) := by decide +kernel
theorem dX12_settle_271 : decode cX12_settle 271 = .ok (.getfield 7, 3) := by decide +kernel
theorem dX12_settle_274 : decode cX12_settle 274 = .ok (.iconst 3, 1) := by decide +kernel
theorem dX12_settle_275 : decode cX12_settle 275 = .ok (.iconst 3, 1) := by decide +kernel
theorem dX12_settle_276 : decode cX12_settle 276 = .ok (.iastore, 1) := by decide +kernel
theorem dX12_settle_277 : decode cX12_settle 277 = .ok (.return_, 1) := by decide +kernel
set_option maxRecDepth 20000 in
theorem ggX12_close_X12_isClosable : GoodIn wsX12_close wsX12_isClosable := goodIn_r _ [7, 2, 8, 9, 10, 6, 11, 12, 13, 14, 15, 16, 17, 18, 19, 20, 21, 22, 23, 24, 25, 26, 27, 28, 29, 30, 31, 32, 33, 34, 35, 36, 37, 38, 39, 40, 41, 109, 110, 111, 112, 113, 114, 115, 116, 117, 118, 119, 120] (by decide +kernel) (by decide +kernel)
set_option maxRecDepth 20000 in
theorem gX12_close_X12_isClosable : GoodIn wsX12_close (wsV RX12 146 RX12 yX12_isClosable wsX12_isClosable) := goodIn_app (goodIn_of _ (by decide +kernel)) ggX12_close_X12_isClosable
set_option maxRecDepth 20000 in
theorem ggX12_close_X12_keep : GoodIn wsX12_close wsX12_keep := goodIn_r _ [45, 46, 47, 2, 109, 110, 111, 112, 113, 114, 115, 116, 117, 118, 119, 120] (by decide +kernel) (by decide +kernel)
set_option maxRecDepth 20000 in
theorem gX12_close_X12_keep : GoodIn wsX12_close (wsV RX12 38 RX12 yX12_keep wsX12_keep) := goodIn_app (goodIn_of _ (by decide +kernel)) ggX12_close_X12_keep
set_option maxRecDepth 20000 in
theorem ggX12_close_X12_placeOf : GoodIn wsX12_close wsX12_placeOf := goodIn_r _ [11, 2, 109, 110, 111, 112, 113, 114, 115, 116, 117, 118, 119, 120] (by decide +kernel) (by decide +kernel)
set_option maxRecDepth 20000 in
theorem gX12_close_X12_placeOf : GoodIn wsX12_close (wsV RX12 106 RX12 yX12_placeOf wsX12_placeOf) := goodIn_app (goodIn_of _ (by decide +kernel)) ggX12_close_X12_placeOf
set_option maxRecDepth 20000 in
theorem ggX12_close_X12_scoreOf : GoodIn wsX12_close wsX12_scoreOf := goodIn_r _ [51, 2, 52, 53, 54, 6, 55, 31, 32, 33, 34, 35, 36, 37, 38, 39, 40, 41, 16, 17, 18, 19, 8, 9, 10, 11, 20, 21, 22, 109, 110, 111, 112, 113, 114, 115, 116, 117, 118, 119, 120] (by decide +kernel) (by decide +kernel)
set_option maxRecDepth 20000 in
theorem gX12_close_X12_scoreOf : GoodIn wsX12_close (wsV RX12 134 RX12 yX12_scoreOf wsX12_scoreOf) := goodIn_app (goodIn_of _ (by decide +kernel)) ggX12_close_X12_scoreOf
set_option maxRecDepth 20000 in
theorem ggX12_close_X12_decide : GoodIn wsX12_close wsX12_decide := goodIn_r _ [59, 60, 2, 61, 62, 63, 64, 6, 65, 8, 9, 10, 11, 66, 67, 68, 69, 48, 49, 50, 51, 52, 53, 54, 55, 31, 32, 33, 34, 35, 36, 37, 38, 39, 40, 41, 16, 17, 18, 19, 20, 21, 22, 109, 110, 111, 112, 113, 114, 115, 116, 117, 118, 119, 120] (by decide +kernel) (by decide +kernel)
set_option maxRecDepth 20000 in
theorem gX12_close_X12_decide : GoodIn wsX12_close (wsV RX12 150 RX12 yX12_decide wsX12_decide) := goodIn_app (goodIn_of _ (by decide +kernel)) ggX12_close_X12_decide
set_option maxRecDepth 20000 in
theorem ggX12_close_X12_settle : GoodIn wsX12_close wsX12_settle := goodIn_r _ [73, 60, 2, 61, 74, 75, 76, 6, 77, 78, 79, 80, 81, 82, 83, 84, 85, 86, 87, 88, 89, 90, 91, 92, 93, 94, 95, 96, 20, 21, 22, 97, 98, 99, 100, 101, 102, 103, 104, 105, 106, 107, 108, 109, 110, 111, 112, 113, 114, 115, 116, 117, 118, 119, 120] (by decide +kernel) (by decide +kernel)
set_option maxRecDepth 20000 in
theorem gX12_close_X12_settle : GoodIn wsX12_close (wsV RX12 154 RX12 yX12_settle wsX12_settle) := goodIn_app (goodIn_of _ (by decide +kernel)) ggX12_close_X12_settle
theorem dX12_close_0 : decode cX12_close 0 = .ok (.aload_n 0, 1) := by decide +kernel
theorem dX12_close_1 : decode cX12_close 1 = .ok (.aload_n 0, 1) := by decide +kernel
theorem dX12_close_2 : decode cX12_close 2 = .ok (.invokevirtual 146, 3) := by decide +kernel
theorem dX12_close_5 : decode cX12_close 5 = .ok (.ifCond .eq 7, 3) := by decide +kernel
theorem dX12_close_8 : decode cX12_close 8 = .ok (.iconst 0, 1) := by decide +kernel
theorem dX12_close_9 : decode cX12_close 9 = .ok (.goto 4, 3) := by decide +kernel
theorem dX12_close_12 : decode cX12_close 12 = .ok (.iconst 1, 1) := by decide +kernel
theorem dX12_close_13 : decode cX12_close 13 = .ok (.putfield 31, 3) := by decide +kernel
theorem dX12_close_16 : decode cX12_close 16 = .ok (.aload_n 0, 1) := by decide +kernel
theorem dX12_close_17 : decode cX12_close 17 = .ok (.getfield 31, 3) := by decide +kernel
theorem dX12_close_20 : decode cX12_close 20 = .ok (.ifCond .eq 5, 3) := by decide +kernel
theorem dX12_close_23 : decode cX12_close 23 = .ok (.iconst 0, 1) := by decide +kernel
theorem dX12_close_24 : decode cX12_close 24 = .ok (.ireturn, 1) := by decide +kernel
theorem dX12_close_25 : decode cX12_close 25 = .ok (.aload_n 0, 1) := by decide +kernel
theorem dX12_close_26 : decode cX12_close 26 = .ok (.invokevirtual 38, 3) := by decide +kernel
theorem dX12_close_29 : decode cX12_close 29 = .ok (.aload_n 0, 1) := by decide +kernel
theorem dX12_close_30 : decode cX12_close 30 = .ok (.getfield 7, 3) := by decide +kernel
theorem dX12_close_33 : decode cX12_close 33 = .ok (.iconst 3, 1) := by decide +kernel
theorem dX12_close_34 : decode cX12_close 34 = .ok (.iaload, 1) := by decide +kernel
theorem dX12_close_35 : decode cX12_close 35 = .ok (.iconst 1, 1) := by decide +kernel
theorem dX12_close_36 : decode cX12_close 36 = .ok (.if_icmp .ne 25, 3) := by decide +kernel
theorem dX12_close_39 : decode cX12_close 39 = .ok (.aload_n 0, 1) := by decide +kernel
theorem dX12_close_40 : decode cX12_close 40 = .ok (.getfield 7, 3) := by decide +kernel
theorem dX12_close_43 : decode cX12_close 43 = .ok (.bipush 102, 2) := by decide +kernel
theorem dX12_close_45 : decode cX12_close 45 = .ok (.bipush 6, 2) := by decide +kernel
theorem dX12_close_47 : decode cX12_close 47 = .ok (.aload_n 0, 1) := by decide +kernel
theorem dX12_close_48 : decode cX12_close 48 = .ok (.getfield 7, 3) := by decide +kernel
theorem dX12_close_51 : decode cX12_close 51 = .ok (.iconst 4, 1) := by decide +kernel
theorem dX12_close_52 : decode cX12_close 52 = .ok (.iaload, 1) := by decide +kernel
theorem dX12_close_53 : decode cX12_close 53 = .ok (.imul, 1) := by decide +kernel
theorem dX12_close_54 : decode cX12_close 54 = .ok (.iadd, 1) := by decide +kernel
theorem dX12_close_55 : decode cX12_close 55 = .ok (.iconst 5, 1) := by decide +kernel
theorem dX12_close_56 : decode cX12_close 56 = .ok (.iadd, 1) := by decide +kernel
theorem dX12_close_57 : decode cX12_close 57 = .ok (.iaload, 1) := by decide +kernel
theorem dX12_close_58 : decode cX12_close 58 = .ok (.goto 10, 3) := by decide +kernel
theorem dX12_close_61 : decode cX12_close 61 = .ok (.aload_n 0, 1) := by decide +kernel
theorem dX12_close_62 : decode cX12_close 62 = .ok (.getfield 7, 3) := by decide +kernel
theorem dX12_close_65 : decode cX12_close 65 = .ok (.bipush 9, 2) := by decide +kernel
theorem dX12_close_67 : decode cX12_close 67 = .ok (.iaload, 1) := by decide +kernel
theorem dX12_close_68 : decode cX12_close 68 = .ok (.istore_n 1, 1) := by decide +kernel
theorem dX12_close_69 : decode cX12_close 69 = .ok (.iconst 0, 1) := by decide +kernel
theorem dX12_close_70 : decode cX12_close 70 = .ok (.istore_n 2, 1) := by decide +kernel
theorem dX12_close_71 : decode cX12_close 71 = .ok (.iload_n 2, 1) := by decide +kernel
theorem dX12_close_72 : decode cX12_close 72 = .ok (.aload_n 0, 1) := by decide +kernel
theorem dX12_close_73 : decode cX12_close 73 = .ok (.getfield 7, 3) := by decide +kernel
theorem dX12_close_76 : decode cX12_close 76 = .ok (.bipush 6, 2) := by decide +kernel
theorem dX12_close_78 : decode cX12_close 78 = .ok (.iaload, 1) := by decide +kernel
theorem dX12_close_79 : decode cX12_close 79 = .ok (.if_icmp .ge 56, 3) := by decide +kernel
theorem dX12_close_82 : decode cX12_close 82 = .ok (.aload_n 0, 1) := by decide +kernel
theorem dX12_close_83 : decode cX12_close 83 = .ok (.getfield 7, 3) := by decide +kernel
theorem dX12_close_86 : decode cX12_close 86 = .ok (.iconst 3, 1) := by decide +kernel
theorem dX12_close_87 : decode cX12_close 87 = .ok (.iaload, 1) := by decide +kernel
theorem dX12_close_88 : decode cX12_close 88 = .ok (.iconst 1, 1) := by decide +kernel
theorem dX12_close_89 : decode cX12_close 89 = .ok (.if_icmp .ne 46, 3) := by decide +kernel
theorem dX12_close_92 : decode cX12_close 92 = .ok (.aload_n 0, 1) := by decide +kernel
theorem dX12_close_93 : decode cX12_close 93 = .ok (.getfield 7, 3) := by decide +kernel
theorem dX12_close_96 : decode cX12_close 96 = .ok (.sipush 666, 3) := by decide +kernel
theorem dX12_close_99 : decode cX12_close 99 = .ok (.iconst 4, 1) := by decide +kernel
theorem dX12_close_100 : decode cX12_close 100 = .ok (.iload_n 2, 1) := by decide +kernel
theorem dX12_close_101 : decode cX12_close 101 = .ok (.imul, 1) := by decide +kernel
theorem dX12_close_102 : decode cX12_close 102 = .ok (.iadd, 1) := by decide +kernel
theorem dX12_close_103 : decode cX12_close 103 = .ok (.aload_n 0, 1) := by decide +kernel
theorem dX12_close_104 : decode cX12_close 104 = .ok (.getfield 7, 3) := by decide +kernel
theorem dX12_close_107 : decode cX12_close 107 = .ok (.iconst 4, 1) := by decide +kernel
theorem dX12_close_108 : decode cX12_close 108 = .ok (.iaload, 1) := by decide +kernel
theorem dX12_close_109 : decode cX12_close 109 = .ok (.iadd, 1) := by decide +kernel
theorem dX12_close_110 : decode cX12_close 110 = .ok (.aload_n 0, 1) := by decide +kernel
theorem dX12_close_111 : decode cX12_close 111 = .ok (.iload_n 2, 1) := by decide +kernel
theorem dX12_close_112 : decode cX12_close 112 = .ok (.invokevirtual 106, 3) := by decide +kernel
theorem dX12_close_115 : decode cX12_close 115 = .ok (.iconst (-1), 1) := by decide +kernel
theorem dX12_close_116 : decode cX12_close 116 = .ok (.if_icmp .ne 7, 3) := by decide +kernel
theorem dX12_close_119 : decode cX12_close 119 = .ok (.iconst (-1), 1) := by decide +kernel
theorem dX12_close_120 : decode cX12_close 120 = .ok (.goto 8, 3) := by decide +kernel
theorem dX12_close_123 : decode cX12_close 123 = .ok (.aload_n 0, 1) := by decide +kernel
theorem dX12_close_124 : decode cX12_close 124 = .ok (.iload_n 2, 1) := by decide +kernel
theorem dX12_close_125 : decode cX12_close 125 = .ok (.invokevirtual 134, 3) := by decide +kernel
theorem dX12_close_128 : decode cX12_close 128 = .ok (.iastore, 1) := by decide +kernel
theorem dX12_close_129 : decode cX12_close 129 = .ok (.iinc 2 1, 3) := by decide +kernel
theorem dX12_close_132 : decode cX12_close 132 = .ok (.goto (-61), 3) := by decide +kernel
theorem dX12_close_135 : decode cX12_close 135 = .ok (.aload_n 0, 1) := by decide +kernel
theorem dX12_close_136 : decode cX12_close 136 = .ok (.aload_n 0, 1) := by decide +kernel
theorem dX12_close_137 : decode cX12_close 137 = .ok (.getfield 7, 3) := by decide +kernel
theorem dX12_close_140 : decode cX12_close 140 = .ok (.iconst 3, 1) := by decide +kernel
theorem dX12_close_141 : decode cX12_close 141 = .ok (.iaload, 1) := by decide +kernel
theorem dX12_close_142 : decode cX12_close 142 = .ok (.iconst 1, 1) := by decide +kernel
theorem dX12_close_143 : decode cX12_close 143 = .ok (.if_icmp .ne 9, 3) := by decide +kernel
theorem dX12_close_146 : decode cX12_close 146 = .ok (.sipush 486, 3) := by decide +kernel
theorem dX12_close_149 : decode cX12_close 149 = .ok (.goto 6, 3) := by decide +kernel
theorem dX12_close_152 : decode cX12_close 152 = .ok (.sipush 570, 3) := by decide +kernel
theorem dX12_close_155 : decode cX12_close 155 = .ok (.iload_n 1, 1) := by decide +kernel
theorem dX12_close_156 : decode cX12_close 156 = .ok (.invokevirtual 150, 3) := by decide +kernel
theorem dX12_close_159 : decode cX12_close 159 = .ok (.aload_n 0, 1) := by decide +kernel
theorem dX12_close_160 : decode cX12_close 160 = .ok (.iload_n 1, 1) := by decide +kernel
theorem dX12_close_161 : decode cX12_close 161 = .ok (.invokevirtual 154, 3) := by decide +kernel
theorem dX12_close_164 : decode cX12_close 164 = .ok (.aload_n 0, 1) := by decide +kernel
theorem dX12_close_165 : decode cX12_close 165 = .ok (.getfield 7, 3) := by decide +kernel
theorem dX12_close_168 : decode cX12_close 168 = .ok (.iconst 3, 1) := by decide +kernel
theorem dX12_close_169 : decode cX12_close 169 = .ok (.iaload, 1) := by decide +kernel
theorem dX12_close_170 : decode cX12_close 170 = .ok (.ireturn, 1) := by decide +kernel
set_option maxRecDepth 20000 in
theorem ggX12_mayWithdraw_X12_hasPlayed : GoodIn wsX12_mayWithdraw wsX12_hasPlayed := goodIn_r _ [6, 1, 7, 8, 9, 5, 10, 11, 12, 13, 14, 15, 16, 17, 18, 19, 20, 21, 22, 23, 24, 25] (by decide +kernel) (by decide +kernel)
set_option maxRecDepth 20000 in
theorem gX12_mayWithdraw_X12_hasPlayed : GoodIn wsX12_mayWithdraw (wsV RX12 119 RX12 yX12_hasPlayed wsX12_hasPlayed) := goodIn_app (goodIn_of _ (by decide +kernel)) ggX12_mayWithdraw_X12_hasPlayed
theorem dX12_mayWithdraw_0 : decode cX12_mayWithdraw 0 = .ok (.aload_n 0, 1) := by decide +kernel
theorem dX12_mayWithdraw_1 : decode cX12_mayWithdraw 1 = .ok (.getfield 7, 3) := by decide +kernel
theorem dX12_mayWithdraw_4 : decode cX12_mayWithdraw 4 = .ok (.bipush 126, 2) := by decide +kernel
theorem dX12_mayWithdraw_6 : decode cX12_mayWithdraw 6 = .ok (.iload_n 1, 1) := by decide +kernel
theorem dX12_mayWithdraw_7 : decode cX12_mayWithdraw 7 = .ok (.iadd, 1) := by decide +kernel
theorem dX12_mayWithdraw_8 : decode cX12_mayWithdraw 8 = .ok (.iaload, 1) := by decide +kernel
theorem dX12_mayWithdraw_9 : decode cX12_mayWithdraw 9 = .ok (.iconst 1, 1) := by decide +kernel
theorem dX12_mayWithdraw_10 : decode cX12_mayWithdraw 10 = .ok (.if_icmp .ne 35, 3) := by decide +kernel
theorem dX12_mayWithdraw_13 : decode cX12_mayWithdraw 13 = .ok (.aload_n 0, 1) := by decide +kernel
theorem dX12_mayWithdraw_14 : decode cX12_mayWithdraw 14 = .ok (.getfield 7, 3) := by decide +kernel
theorem dX12_mayWithdraw_17 : decode cX12_mayWithdraw 17 = .ok (.iconst 3, 1) := by decide +kernel
theorem dX12_mayWithdraw_18 : decode cX12_mayWithdraw 18 = .ok (.iaload, 1) := by decide +kernel
theorem dX12_mayWithdraw_19 : decode cX12_mayWithdraw 19 = .ok (.iconst 2, 1) := by decide +kernel
theorem dX12_mayWithdraw_20 : decode cX12_mayWithdraw 20 = .ok (.if_icmp .ge 25, 3) := by decide +kernel
theorem dX12_mayWithdraw_23 : decode cX12_mayWithdraw 23 = .ok (.aload_n 0, 1) := by decide +kernel
theorem dX12_mayWithdraw_24 : decode cX12_mayWithdraw 24 = .ok (.getfield 7, 3) := by decide +kernel
theorem dX12_mayWithdraw_27 : decode cX12_mayWithdraw 27 = .ok (.iconst 3, 1) := by decide +kernel
theorem dX12_mayWithdraw_28 : decode cX12_mayWithdraw 28 = .ok (.iaload, 1) := by decide +kernel
theorem dX12_mayWithdraw_29 : decode cX12_mayWithdraw 29 = .ok (.iconst 1, 1) := by decide +kernel
theorem dX12_mayWithdraw_30 : decode cX12_mayWithdraw 30 = .ok (.if_icmp .ne 11, 3) := by decide +kernel
theorem dX12_mayWithdraw_33 : decode cX12_mayWithdraw 33 = .ok (.aload_n 0, 1) := by decide +kernel
theorem dX12_mayWithdraw_34 : decode cX12_mayWithdraw 34 = .ok (.iload_n 1, 1) := by decide +kernel
theorem dX12_mayWithdraw_35 : decode cX12_mayWithdraw 35 = .ok (.invokevirtual 119, 3) := by decide +kernel
theorem dX12_mayWithdraw_38 : decode cX12_mayWithdraw 38 = .ok (.ifCond .ne 7, 3) := by decide +kernel
theorem dX12_mayWithdraw_41 : decode cX12_mayWithdraw 41 = .ok (.iconst 1, 1) := by decide +kernel
theorem dX12_mayWithdraw_42 : decode cX12_mayWithdraw 42 = .ok (.goto 4, 3) := by decide +kernel
theorem dX12_mayWithdraw_45 : decode cX12_mayWithdraw 45 = .ok (.iconst 0, 1) := by decide +kernel
theorem dX12_mayWithdraw_46 : decode cX12_mayWithdraw 46 = .ok (.ireturn, 1) := by decide +kernel
theorem dX12_countIn_0 : decode cX12_countIn 0 = .ok (.iconst 0, 1) := by decide +kernel
theorem dX12_countIn_1 : decode cX12_countIn 1 = .ok (.istore_n 1, 1) := by decide +kernel
theorem dX12_countIn_2 : decode cX12_countIn 2 = .ok (.iconst 0, 1) := by decide +kernel
theorem dX12_countIn_3 : decode cX12_countIn 3 = .ok (.istore_n 2, 1) := by decide +kernel
theorem dX12_countIn_4 : decode cX12_countIn 4 = .ok (.iload_n 2, 1) := by decide +kernel
theorem dX12_countIn_5 : decode cX12_countIn 5 = .ok (.aload_n 0, 1) := by decide +kernel
theorem dX12_countIn_6 : decode cX12_countIn 6 = .ok (.getfield 7, 3) := by decide +kernel
theorem dX12_countIn_9 : decode cX12_countIn 9 = .ok (.bipush 6, 2) := by decide +kernel
theorem dX12_countIn_11 : decode cX12_countIn 11 = .ok (.iaload, 1) := by decide +kernel
theorem dX12_countIn_12 : decode cX12_countIn 12 = .ok (.if_icmp .ge 21, 3) := by decide +kernel
theorem dX12_countIn_15 : decode cX12_countIn 15 = .ok (.iload_n 1, 1) := by decide +kernel
theorem dX12_countIn_16 : decode cX12_countIn 16 = .ok (.aload_n 0, 1) := by decide +kernel
theorem dX12_countIn_17 : decode cX12_countIn 17 = .ok (.getfield 7, 3) := by decide +kernel
theorem dX12_countIn_20 : decode cX12_countIn 20 = .ok (.bipush 126, 2) := by decide +kernel
theorem dX12_countIn_22 : decode cX12_countIn 22 = .ok (.iload_n 2, 1) := by decide +kernel
theorem dX12_countIn_23 : decode cX12_countIn 23 = .ok (.iadd, 1) := by decide +kernel
theorem dX12_countIn_24 : decode cX12_countIn 24 = .ok (.iaload, 1) := by decide +kernel
theorem dX12_countIn_25 : decode cX12_countIn 25 = .ok (.iadd, 1) := by decide +kernel
theorem dX12_countIn_26 : decode cX12_countIn 26 = .ok (.istore_n 1, 1) := by decide +kernel
theorem dX12_countIn_27 : decode cX12_countIn 27 = .ok (.iinc 2 1, 3) := by decide +kernel
theorem dX12_countIn_30 : decode cX12_countIn 30 = .ok (.goto (-26), 3) := by decide +kernel
theorem dX12_countIn_33 : decode cX12_countIn 33 = .ok (.iload_n 1, 1) := by decide +kernel
theorem dX12_countIn_34 : decode cX12_countIn 34 = .ok (.ireturn, 1) := by decide +kernel
set_option maxRecDepth 20000 in
theorem ggX12_withdraw_X12_isEntrant : GoodIn wsX12_withdraw wsX12_isEntrant := goodIn_r _ [7, 2, 8, 9, 6, 10, 33, 34, 35, 36, 37, 38, 39, 40, 41, 42, 43, 44] (by decide +kernel) (by decide +kernel)
set_option maxRecDepth 20000 in
theorem gX12_withdraw_X12_isEntrant : GoodIn wsX12_withdraw (wsV RX12 53 RX12 yX12_isEntrant wsX12_isEntrant) := goodIn_app (goodIn_of _ (by decide +kernel)) ggX12_withdraw_X12_isEntrant
set_option maxRecDepth 20000 in
theorem ggX12_withdraw_X12_mayWithdraw : GoodIn wsX12_withdraw wsX12_mayWithdraw := goodIn_r _ [14, 2, 15, 16, 17, 6, 18, 19, 20, 21, 22, 8, 9, 10, 33, 34, 35, 36, 37, 38, 39, 40, 41, 42, 43, 44] (by decide +kernel) (by decide +kernel)
set_option maxRecDepth 20000 in
theorem gX12_withdraw_X12_mayWithdraw : GoodIn wsX12_withdraw (wsV RX12 157 RX12 yX12_mayWithdraw wsX12_mayWithdraw) := goodIn_app (goodIn_of _ (by decide +kernel)) ggX12_withdraw_X12_mayWithdraw
set_option maxRecDepth 20000 in
theorem ggX12_withdraw_X12_keep : GoodIn wsX12_withdraw wsX12_keep := goodIn_r _ [26, 27, 28, 2, 33, 34, 35, 36, 37, 38, 39, 40, 41, 42, 43, 44] (by decide +kernel) (by decide +kernel)
set_option maxRecDepth 20000 in
theorem gX12_withdraw_X12_keep : GoodIn wsX12_withdraw (wsV RX12 38 RX12 yX12_keep wsX12_keep) := goodIn_app (goodIn_of _ (by decide +kernel)) ggX12_withdraw_X12_keep
set_option maxRecDepth 20000 in
theorem ggX12_withdraw_X12_placeOf : GoodIn wsX12_withdraw wsX12_placeOf := goodIn_r _ [22, 2, 33, 34, 35, 36, 37, 38, 39, 40, 41, 42, 43, 44] (by decide +kernel) (by decide +kernel)
set_option maxRecDepth 20000 in
theorem gX12_withdraw_X12_placeOf : GoodIn wsX12_withdraw (wsV RX12 106 RX12 yX12_placeOf wsX12_placeOf) := goodIn_app (goodIn_of _ (by decide +kernel)) ggX12_withdraw_X12_placeOf
set_option maxRecDepth 20000 in
theorem ggX12_withdraw_X12_countIn : GoodIn wsX12_withdraw wsX12_countIn := goodIn_r _ [32, 2, 33, 34, 35, 36, 37, 38, 39, 40, 41, 42, 43, 44] (by decide +kernel) (by decide +kernel)
set_option maxRecDepth 20000 in
theorem gX12_withdraw_X12_countIn : GoodIn wsX12_withdraw (wsV RX12 160 RX12 yX12_countIn wsX12_countIn) := goodIn_app (goodIn_of _ (by decide +kernel)) ggX12_withdraw_X12_countIn
theorem dX12_withdraw_0 : decode cX12_withdraw 0 = .ok (.aload_n 0, 1) := by decide +kernel
theorem dX12_withdraw_1 : decode cX12_withdraw 1 = .ok (.aload_n 0, 1) := by decide +kernel
theorem dX12_withdraw_2 : decode cX12_withdraw 2 = .ok (.iload_n 1, 1) := by decide +kernel
theorem dX12_withdraw_3 : decode cX12_withdraw 3 = .ok (.invokevirtual 53, 3) := by decide +kernel
theorem dX12_withdraw_6 : decode cX12_withdraw 6 = .ok (.ifCond .ne 7, 3) := by decide +kernel
theorem dX12_withdraw_9 : decode cX12_withdraw 9 = .ok (.iconst 1, 1) := by decide +kernel
theorem dX12_withdraw_10 : decode cX12_withdraw 10 = .ok (.goto 16, 3) := by decide +kernel
theorem dX12_withdraw_13 : decode cX12_withdraw 13 = .ok (.aload_n 0, 1) := by decide +kernel
theorem dX12_withdraw_14 : decode cX12_withdraw 14 = .ok (.iload_n 1, 1) := by decide +kernel
theorem dX12_withdraw_15 : decode cX12_withdraw 15 = .ok (.invokevirtual 157, 3) := by decide +kernel
theorem dX12_withdraw_18 : decode cX12_withdraw 18 = .ok (.ifCond .eq 7, 3) := by decide +kernel
theorem dX12_withdraw_21 : decode cX12_withdraw 21 = .ok (.iconst 0, 1) := by decide +kernel
theorem dX12_withdraw_22 : decode cX12_withdraw 22 = .ok (.goto 4, 3) := by decide +kernel
theorem dX12_withdraw_25 : decode cX12_withdraw 25 = .ok (.iconst 2, 1) := by decide +kernel
theorem dX12_withdraw_26 : decode cX12_withdraw 26 = .ok (.putfield 31, 3) := by decide +kernel
theorem dX12_withdraw_29 : decode cX12_withdraw 29 = .ok (.aload_n 0, 1) := by decide +kernel
theorem dX12_withdraw_30 : decode cX12_withdraw 30 = .ok (.getfield 31, 3) := by decide +kernel
theorem dX12_withdraw_33 : decode cX12_withdraw 33 = .ok (.ifCond .eq 5, 3) := by decide +kernel
theorem dX12_withdraw_36 : decode cX12_withdraw 36 = .ok (.iconst 0, 1) := by decide +kernel
theorem dX12_withdraw_37 : decode cX12_withdraw 37 = .ok (.ireturn, 1) := by decide +kernel
theorem dX12_withdraw_38 : decode cX12_withdraw 38 = .ok (.aload_n 0, 1) := by decide +kernel
theorem dX12_withdraw_39 : decode cX12_withdraw 39 = .ok (.invokevirtual 38, 3) := by decide +kernel
theorem dX12_withdraw_42 : decode cX12_withdraw 42 = .ok (.aload_n 0, 1) := by decide +kernel
theorem dX12_withdraw_43 : decode cX12_withdraw 43 = .ok (.getfield 7, 3) := by decide +kernel
theorem dX12_withdraw_46 : decode cX12_withdraw 46 = .ok (.bipush 126, 2) := by decide +kernel
theorem dX12_withdraw_48 : decode cX12_withdraw 48 = .ok (.iload_n 1, 1) := by decide +kernel
theorem dX12_withdraw_49 : decode cX12_withdraw 49 = .ok (.iadd, 1) := by decide +kernel
theorem dX12_withdraw_50 : decode cX12_withdraw 50 = .ok (.iconst 0, 1) := by decide +kernel
theorem dX12_withdraw_51 : decode cX12_withdraw 51 = .ok (.iastore, 1) := by decide +kernel
theorem dX12_withdraw_52 : decode cX12_withdraw 52 = .ok (.aload_n 0, 1) := by decide +kernel
theorem dX12_withdraw_53 : decode cX12_withdraw 53 = .ok (.iload_n 1, 1) := by decide +kernel
theorem dX12_withdraw_54 : decode cX12_withdraw 54 = .ok (.invokevirtual 106, 3) := by decide +kernel
theorem dX12_withdraw_57 : decode cX12_withdraw 57 = .ok (.istore_n 2, 1) := by decide +kernel
theorem dX12_withdraw_58 : decode cX12_withdraw 58 = .ok (.iload_n 2, 1) := by decide +kernel
theorem dX12_withdraw_59 : decode cX12_withdraw 59 = .ok (.iconst (-1), 1) := by decide +kernel
theorem dX12_withdraw_60 : decode cX12_withdraw 60 = .ok (.if_icmp .eq 81, 3) := by decide +kernel
theorem dX12_withdraw_63 : decode cX12_withdraw 63 = .ok (.aload_n 0, 1) := by decide +kernel
theorem dX12_withdraw_64 : decode cX12_withdraw 64 = .ok (.getfield 7, 3) := by decide +kernel
theorem dX12_withdraw_67 : decode cX12_withdraw 67 = .ok (.bipush 7, 2) := by decide +kernel
theorem dX12_withdraw_69 : decode cX12_withdraw 69 = .ok (.dup2, 1) := by decide +kernel
theorem dX12_withdraw_70 : decode cX12_withdraw 70 = .ok (.iaload, 1) := by decide +kernel
theorem dX12_withdraw_71 : decode cX12_withdraw 71 = .ok (.iconst 1, 1) := by decide +kernel
theorem dX12_withdraw_72 : decode cX12_withdraw 72 = .ok (.isub, 1) := by decide +kernel
theorem dX12_withdraw_73 : decode cX12_withdraw 73 = .ok (.iastore, 1) := by decide +kernel
theorem dX12_withdraw_74 : decode cX12_withdraw 74 = .ok (.iload_n 2, 1) := by decide +kernel
theorem dX12_withdraw_75 : decode cX12_withdraw 75 = .ok (.istore_n 3, 1) := by decide +kernel
theorem dX12_withdraw_76 : decode cX12_withdraw 76 = .ok (.iload_n 3, 1) := by decide +kernel
theorem dX12_withdraw_77 : decode cX12_withdraw 77 = .ok (.aload_n 0, 1) := by decide +kernel
theorem dX12_withdraw_78 : decode cX12_withdraw 78 = .ok (.getfield 7, 3) := by decide +kernel
theorem dX12_withdraw_81 : decode cX12_withdraw 81 = .ok (.bipush 7, 2) := by decide +kernel
theorem dX12_withdraw_83 : decode cX12_withdraw 83 = .ok (.iaload, 1) := by decide +kernel
theorem dX12_withdraw_84 : decode cX12_withdraw 84 = .ok (.if_icmp .ge 31, 3) := by decide +kernel
theorem dX12_withdraw_87 : decode cX12_withdraw 87 = .ok (.aload_n 0, 1) := by decide +kernel
theorem dX12_withdraw_88 : decode cX12_withdraw 88 = .ok (.getfield 7, 3) := by decide +kernel
theorem dX12_withdraw_91 : decode cX12_withdraw 91 = .ok (.sipush 462, 3) := by decide +kernel
theorem dX12_withdraw_94 : decode cX12_withdraw 94 = .ok (.iload_n 3, 1) := by decide +kernel
theorem dX12_withdraw_95 : decode cX12_withdraw 95 = .ok (.iadd, 1) := by decide +kernel
theorem dX12_withdraw_96 : decode cX12_withdraw 96 = .ok (.aload_n 0, 1) := by decide +kernel
theorem dX12_withdraw_97 : decode cX12_withdraw 97 = .ok (.getfield 7, 3) := by decide +kernel
theorem dX12_withdraw_100 : decode cX12_withdraw 100 = .ok (.sipush 462, 3) := by decide +kernel
theorem dX12_withdraw_103 : decode cX12_withdraw 103 = .ok (.iload_n 3, 1) := by decide +kernel
theorem dX12_withdraw_104 : decode cX12_withdraw 104 = .ok (.iadd, 1) := by decide +kernel
theorem dX12_withdraw_105 : decode cX12_withdraw 105 = .ok (.iconst 1, 1) := by decide +kernel
theorem dX12_withdraw_106 : decode cX12_withdraw 106 = .ok (.iadd, 1) := by decide +kernel
theorem dX12_withdraw_107 : decode cX12_withdraw 107 = .ok (.iaload, 1) := by decide +kernel
theorem dX12_withdraw_108 : decode cX12_withdraw 108 = .ok (.iastore, 1) := by decide +kernel
theorem dX12_withdraw_109 : decode cX12_withdraw 109 = .ok (.iinc 3 1, 3) := by decide +kernel
theorem dX12_withdraw_112 : decode cX12_withdraw 112 = .ok (.goto (-36), 3) := by decide +kernel
theorem dX12_withdraw_115 : decode cX12_withdraw 115 = .ok (.aload_n 0, 1) := by decide +kernel
theorem dX12_withdraw_116 : decode cX12_withdraw 116 = .ok (.getfield 7, 3) := by decide +kernel
theorem dX12_withdraw_119 : decode cX12_withdraw 119 = .ok (.iconst 3, 1) := by decide +kernel
theorem dX12_withdraw_120 : decode cX12_withdraw 120 = .ok (.aload_n 0, 1) := by decide +kernel
theorem dX12_withdraw_121 : decode cX12_withdraw 121 = .ok (.getfield 7, 3) := by decide +kernel
theorem dX12_withdraw_124 : decode cX12_withdraw 124 = .ok (.bipush 7, 2) := by decide +kernel
theorem dX12_withdraw_126 : decode cX12_withdraw 126 = .ok (.iaload, 1) := by decide +kernel
theorem dX12_withdraw_127 : decode cX12_withdraw 127 = .ok (.ifCond .ne 7, 3) := by decide +kernel
theorem dX12_withdraw_130 : decode cX12_withdraw 130 = .ok (.iconst 3, 1) := by decide +kernel
theorem dX12_withdraw_131 : decode cX12_withdraw 131 = .ok (.goto 9, 3) := by decide +kernel
theorem dX12_withdraw_134 : decode cX12_withdraw 134 = .ok (.aload_n 0, 1) := by decide +kernel
theorem dX12_withdraw_135 : decode cX12_withdraw 135 = .ok (.getfield 7, 3) := by decide +kernel
theorem dX12_withdraw_138 : decode cX12_withdraw 138 = .ok (.iconst 3, 1) := by decide +kernel
theorem dX12_withdraw_139 : decode cX12_withdraw 139 = .ok (.iaload, 1) := by decide +kernel
theorem dX12_withdraw_140 : decode cX12_withdraw 140 = .ok (.iastore, 1) := by decide +kernel
theorem dX12_withdraw_141 : decode cX12_withdraw 141 = .ok (.aload_n 0, 1) := by decide +kernel
theorem dX12_withdraw_142 : decode cX12_withdraw 142 = .ok (.invokevirtual 160, 3) := by decide +kernel
theorem dX12_withdraw_145 : decode cX12_withdraw 145 = .ok (.ireturn, 1) := by decide +kernel
theorem dX12_tied_0 : decode cX12_tied 0 = .ok (.iconst 0, 1) := by decide +kernel
theorem dX12_tied_1 : decode cX12_tied 1 = .ok (.istore_n 1, 1) := by decide +kernel
theorem dX12_tied_2 : decode cX12_tied 2 = .ok (.iconst 0, 1) := by decide +kernel
theorem dX12_tied_3 : decode cX12_tied 3 = .ok (.istore_n 2, 1) := by decide +kernel
theorem dX12_tied_4 : decode cX12_tied 4 = .ok (.iload_n 2, 1) := by decide +kernel
theorem dX12_tied_5 : decode cX12_tied 5 = .ok (.aload_n 0, 1) := by decide +kernel
theorem dX12_tied_6 : decode cX12_tied 6 = .ok (.getfield 7, 3) := by decide +kernel
theorem dX12_tied_9 : decode cX12_tied 9 = .ok (.bipush 6, 2) := by decide +kernel
theorem dX12_tied_11 : decode cX12_tied 11 = .ok (.iaload, 1) := by decide +kernel
theorem dX12_tied_12 : decode cX12_tied 12 = .ok (.if_icmp .ge 22, 3) := by decide +kernel
theorem dX12_tied_15 : decode cX12_tied 15 = .ok (.iload_n 1, 1) := by decide +kernel
theorem dX12_tied_16 : decode cX12_tied 16 = .ok (.aload_n 0, 1) := by decide +kernel
theorem dX12_tied_17 : decode cX12_tied 17 = .ok (.getfield 7, 3) := by decide +kernel
theorem dX12_tied_20 : decode cX12_tied 20 = .ok (.sipush 654, 3) := by decide +kernel
theorem dX12_tied_23 : decode cX12_tied 23 = .ok (.iload_n 2, 1) := by decide +kernel
theorem dX12_tied_24 : decode cX12_tied 24 = .ok (.iadd, 1) := by decide +kernel
theorem dX12_tied_25 : decode cX12_tied 25 = .ok (.iaload, 1) := by decide +kernel
theorem dX12_tied_26 : decode cX12_tied 26 = .ok (.iadd, 1) := by decide +kernel
theorem dX12_tied_27 : decode cX12_tied 27 = .ok (.istore_n 1, 1) := by decide +kernel
theorem dX12_tied_28 : decode cX12_tied 28 = .ok (.iinc 2 1, 3) := by decide +kernel
theorem dX12_tied_31 : decode cX12_tied 31 = .ok (.goto (-27), 3) := by decide +kernel
theorem dX12_tied_34 : decode cX12_tied 34 = .ok (.iload_n 1, 1) := by decide +kernel
theorem dX12_tied_35 : decode cX12_tied 35 = .ok (.ireturn, 1) := by decide +kernel
set_option maxRecDepth 20000 in
theorem ggX12_infoOf_X12_countIn : GoodIn wsX12_infoOf wsX12_countIn := goodIn_r _ [6, 1, 11, 12, 13, 14, 15, 16, 17, 18, 19, 20, 21, 22] (by decide +kernel) (by decide +kernel)
set_option maxRecDepth 20000 in
theorem gX12_infoOf_X12_countIn : GoodIn wsX12_infoOf (wsV RX12 160 RX12 yX12_countIn wsX12_countIn) := goodIn_app (goodIn_of _ (by decide +kernel)) ggX12_infoOf_X12_countIn
set_option maxRecDepth 20000 in
theorem ggX12_infoOf_X12_tied : GoodIn wsX12_infoOf wsX12_tied := goodIn_r _ [10, 1, 11, 12, 13, 14, 15, 16, 17, 18, 19, 20, 21, 22] (by decide +kernel) (by decide +kernel)
set_option maxRecDepth 20000 in
theorem gX12_infoOf_X12_tied : GoodIn wsX12_infoOf (wsV RX12 163 RX12 yX12_tied wsX12_tied) := goodIn_app (goodIn_of _ (by decide +kernel)) ggX12_infoOf_X12_tied
theorem dX12_infoOf_0 : decode cX12_infoOf 0 = .ok (.iload_n 1, 1) := by decide +kernel
theorem dX12_infoOf_1 : decode cX12_infoOf 1 = .ok (.tableswitch 81 7 12 #[39, 44, 52, 60, 65, 73], 39) := by decide +kernel
theorem dX12_infoOf_40 : decode cX12_infoOf 40 = .ok (.aload_n 0, 1) := by decide +kernel
theorem dX12_infoOf_41 : decode cX12_infoOf 41 = .ok (.invokevirtual 160, 3) := by decide +kernel
theorem dX12_infoOf_44 : decode cX12_infoOf 44 = .ok (.ireturn, 1) := by decide +kernel
theorem dX12_infoOf_45 : decode cX12_infoOf 45 = .ok (.aload_n 0, 1) := by decide +kernel
theorem dX12_infoOf_46 : decode cX12_infoOf 46 = .ok (.getfield 7, 3) := by decide +kernel
theorem dX12_infoOf_49 : decode cX12_infoOf 49 = .ok (.bipush 7, 2) := by decide +kernel
theorem dX12_infoOf_51 : decode cX12_infoOf 51 = .ok (.iaload, 1) := by decide +kernel
theorem dX12_infoOf_52 : decode cX12_infoOf 52 = .ok (.ireturn, 1) := by decide +kernel
theorem dX12_infoOf_53 : decode cX12_infoOf 53 = .ok (.aload_n 0, 1) := by decide +kernel
theorem dX12_infoOf_54 : decode cX12_infoOf 54 = .ok (.getfield 7, 3) := by decide +kernel
theorem dX12_infoOf_57 : decode cX12_infoOf 57 = .ok (.bipush 8, 2) := by decide +kernel
theorem dX12_infoOf_59 : decode cX12_infoOf 59 = .ok (.iaload, 1) := by decide +kernel
theorem dX12_infoOf_60 : decode cX12_infoOf 60 = .ok (.ireturn, 1) := by decide +kernel
theorem dX12_infoOf_61 : decode cX12_infoOf 61 = .ok (.aload_n 0, 1) := by decide +kernel
theorem dX12_infoOf_62 : decode cX12_infoOf 62 = .ok (.invokevirtual 163, 3) := by decide +kernel
theorem dX12_infoOf_65 : decode cX12_infoOf 65 = .ok (.ireturn, 1) := by decide +kernel
theorem dX12_infoOf_66 : decode cX12_infoOf 66 = .ok (.aload_n 0, 1) := by decide +kernel
theorem dX12_infoOf_67 : decode cX12_infoOf 67 = .ok (.getfield 7, 3) := by decide +kernel
theorem dX12_infoOf_70 : decode cX12_infoOf 70 = .ok (.bipush 9, 2) := by decide +kernel
theorem dX12_infoOf_72 : decode cX12_infoOf 72 = .ok (.iaload, 1) := by decide +kernel
theorem dX12_infoOf_73 : decode cX12_infoOf 73 = .ok (.ireturn, 1) := by decide +kernel
theorem dX12_infoOf_74 : decode cX12_infoOf 74 = .ok (.aload_n 0, 1) := by decide +kernel
theorem dX12_infoOf_75 : decode cX12_infoOf 75 = .ok (.getfield 7, 3) := by decide +kernel
theorem dX12_infoOf_78 : decode cX12_infoOf 78 = .ok (.bipush 10, 2) := by decide +kernel
theorem dX12_infoOf_80 : decode cX12_infoOf 80 = .ok (.iaload, 1) := by decide +kernel
theorem dX12_infoOf_81 : decode cX12_infoOf 81 = .ok (.ireturn, 1) := by decide +kernel
theorem dX12_infoOf_82 : decode cX12_infoOf 82 = .ok (.aload_n 0, 1) := by decide +kernel
theorem dX12_infoOf_83 : decode cX12_infoOf 83 = .ok (.getfield 7, 3) := by decide +kernel
theorem dX12_infoOf_86 : decode cX12_infoOf 86 = .ok (.iload_n 1, 1) := by decide +kernel
theorem dX12_infoOf_87 : decode cX12_infoOf 87 = .ok (.iaload, 1) := by decide +kernel
theorem dX12_infoOf_88 : decode cX12_infoOf 88 = .ok (.ireturn, 1) := by decide +kernel
set_option maxRecDepth 20000 in
theorem ggX12_info_X12_in : GoodIn wsX12_info wsX12_in := goodIn_r _ [5] (by decide +kernel) (by decide +kernel)
set_option maxRecDepth 20000 in
theorem gX12_info_X12_in : GoodIn wsX12_info (va_wsS RX12 41 yX12_in wsX12_in) := goodIn_app (goodIn_of _ (by decide +kernel)) ggX12_info_X12_in
set_option maxRecDepth 20000 in
theorem ggX12_info_X12_infoOf : GoodIn wsX12_info wsX12_infoOf := goodIn_r _ [9, 10, 11, 12, 13, 4, 14, 15, 16, 17, 18, 19, 20, 21, 22, 23, 24, 25, 26, 27, 28, 29, 30] (by decide +kernel) (by decide +kernel)
set_option maxRecDepth 20000 in
theorem gX12_info_X12_infoOf : GoodIn wsX12_info (wsV RX12 166 RX12 yX12_infoOf wsX12_infoOf) := goodIn_app (goodIn_of _ (by decide +kernel)) ggX12_info_X12_infoOf
theorem dX12_info_0 : decode cX12_info 0 = .ok (.aload_n 0, 1) := by decide +kernel
theorem dX12_info_1 : decode cX12_info 1 = .ok (.iload_n 1, 1) := by decide +kernel
theorem dX12_info_2 : decode cX12_info 2 = .ok (.iconst 0, 1) := by decide +kernel
theorem dX12_info_3 : decode cX12_info 3 = .ok (.bipush 12, 2) := by decide +kernel
theorem dX12_info_5 : decode cX12_info 5 = .ok (.invokestatic 41, 3) := by decide +kernel
theorem dX12_info_8 : decode cX12_info 8 = .ok (.ifCond .eq 7, 3) := by decide +kernel
theorem dX12_info_11 : decode cX12_info 11 = .ok (.iconst 0, 1) := by decide +kernel
theorem dX12_info_12 : decode cX12_info 12 = .ok (.goto 4, 3) := by decide +kernel
theorem dX12_info_15 : decode cX12_info 15 = .ok (.iconst 1, 1) := by decide +kernel
theorem dX12_info_16 : decode cX12_info 16 = .ok (.putfield 31, 3) := by decide +kernel
theorem dX12_info_19 : decode cX12_info 19 = .ok (.aload_n 0, 1) := by decide +kernel
theorem dX12_info_20 : decode cX12_info 20 = .ok (.getfield 31, 3) := by decide +kernel
theorem dX12_info_23 : decode cX12_info 23 = .ok (.ifCond .eq 7, 3) := by decide +kernel
theorem dX12_info_26 : decode cX12_info 26 = .ok (.iconst 0, 1) := by decide +kernel
theorem dX12_info_27 : decode cX12_info 27 = .ok (.goto 8, 3) := by decide +kernel
theorem dX12_info_30 : decode cX12_info 30 = .ok (.aload_n 0, 1) := by decide +kernel
theorem dX12_info_31 : decode cX12_info 31 = .ok (.iload_n 1, 1) := by decide +kernel
theorem dX12_info_32 : decode cX12_info 32 = .ok (.invokevirtual 166, 3) := by decide +kernel
theorem dX12_info_35 : decode cX12_info 35 = .ok (.ireturn, 1) := by decide +kernel
set_option maxRecDepth 20000 in
theorem ggX12_ofEntrant_X12_placeOf : GoodIn wsX12_ofEntrant wsX12_placeOf := goodIn_r _ [6, 1, 45, 46, 47, 48, 49, 50, 51, 52, 53, 54, 55, 56] (by decide +kernel) (by decide +kernel)
set_option maxRecDepth 20000 in
theorem gX12_ofEntrant_X12_placeOf : GoodIn wsX12_ofEntrant (wsV RX12 106 RX12 yX12_placeOf wsX12_placeOf) := goodIn_app (goodIn_of _ (by decide +kernel)) ggX12_ofEntrant_X12_placeOf
set_option maxRecDepth 20000 in
theorem ggX12_ofEntrant_X12_hasPlayed : GoodIn wsX12_ofEntrant wsX12_hasPlayed := goodIn_r _ [10, 1, 2, 3, 4, 5, 6, 11, 12, 13, 45, 46, 47, 48, 49, 50, 51, 52, 53, 54, 55, 56] (by decide +kernel) (by decide +kernel)
set_option maxRecDepth 20000 in
theorem gX12_ofEntrant_X12_hasPlayed : GoodIn wsX12_ofEntrant (wsV RX12 119 RX12 yX12_hasPlayed wsX12_hasPlayed) := goodIn_app (goodIn_of _ (by decide +kernel)) ggX12_ofEntrant_X12_hasPlayed
set_option maxRecDepth 20000 in
theorem ggX12_ofEntrant_X12_counting : GoodIn wsX12_ofEntrant wsX12_counting := goodIn_r _ [17, 1, 18, 19, 20, 5, 21, 22, 23, 24, 25, 26, 27, 28, 45, 46, 47, 48, 49, 50, 51, 52, 53, 54, 55, 56] (by decide +kernel) (by decide +kernel)
set_option maxRecDepth 20000 in
theorem gX12_ofEntrant_X12_counting : GoodIn wsX12_ofEntrant (wsV RX12 122 RX12 yX12_counting wsX12_counting) := goodIn_app (goodIn_of _ (by decide +kernel)) ggX12_ofEntrant_X12_counting
set_option maxRecDepth 20000 in
theorem ggX12_ofEntrant_X12_scoreOf : GoodIn wsX12_ofEntrant wsX12_scoreOf := goodIn_r _ [32, 1, 33, 34, 35, 5, 36, 18, 19, 20, 21, 22, 23, 24, 25, 26, 27, 28, 7, 8, 9, 10, 2, 3, 4, 6, 11, 12, 13, 45, 46, 47, 48, 49, 50, 51, 52, 53, 54, 55, 56] (by decide +kernel) (by decide +kernel)
set_option maxRecDepth 20000 in
theorem gX12_ofEntrant_X12_scoreOf : GoodIn wsX12_ofEntrant (wsV RX12 134 RX12 yX12_scoreOf wsX12_scoreOf) := goodIn_app (goodIn_of _ (by decide +kernel)) ggX12_ofEntrant_X12_scoreOf
set_option maxRecDepth 20000 in
theorem ggX12_ofEntrant_X12_isComplete : GoodIn wsX12_ofEntrant wsX12_isComplete := goodIn_r _ [40, 7, 8, 9, 5, 10, 1, 2, 3, 4, 6, 11, 12, 13, 41, 42, 43, 44, 14, 15, 16, 17, 18, 19, 20, 21, 22, 23, 24, 25, 26, 27, 28, 45, 46, 47, 48, 49, 50, 51, 52, 53, 54, 55, 56] (by decide +kernel) (by decide +kernel)
set_option maxRecDepth 20000 in
theorem gX12_ofEntrant_X12_isComplete : GoodIn wsX12_ofEntrant (wsV RX12 143 RX12 yX12_isComplete wsX12_isComplete) := goodIn_app (goodIn_of _ (by decide +kernel)) ggX12_ofEntrant_X12_isComplete
set_option maxRecDepth 20000 in
theorem ggX12_ofEntrant_X12_mean : GoodIn wsX12_ofEntrant wsX12_mean := goodIn_r _ [36, 1, 18, 19, 20, 5, 21, 22, 23, 24, 25, 26, 27, 28, 45, 46, 47, 48, 49, 50, 51, 52, 53, 54, 55, 56] (by decide +kernel) (by decide +kernel)
set_option maxRecDepth 20000 in
theorem gX12_ofEntrant_X12_mean : GoodIn wsX12_ofEntrant (wsV RX12 116 RX12 yX12_mean wsX12_mean) := goodIn_app (goodIn_of _ (by decide +kernel)) ggX12_ofEntrant_X12_mean
theorem dX12_ofEntrant_0 : decode cX12_ofEntrant 0 = .ok (.iload_n 2, 1) := by decide +kernel
theorem dX12_ofEntrant_1 : decode cX12_ofEntrant 1 = .ok (.tableswitch 138 0 6 #[43, 53, 59, 82, 107, 113, 127], 43) := by decide +kernel
theorem dX12_ofEntrant_44 : decode cX12_ofEntrant 44 = .ok (.aload_n 0, 1) := by decide +kernel
theorem dX12_ofEntrant_45 : decode cX12_ofEntrant 45 = .ok (.getfield 7, 3) := by decide +kernel
theorem dX12_ofEntrant_48 : decode cX12_ofEntrant 48 = .ok (.bipush 126, 2) := by decide +kernel
theorem dX12_ofEntrant_50 : decode cX12_ofEntrant 50 = .ok (.iload_n 1, 1) := by decide +kernel
theorem dX12_ofEntrant_51 : decode cX12_ofEntrant 51 = .ok (.iadd, 1) := by decide +kernel
theorem dX12_ofEntrant_52 : decode cX12_ofEntrant 52 = .ok (.iaload, 1) := by decide +kernel
theorem dX12_ofEntrant_53 : decode cX12_ofEntrant 53 = .ok (.ireturn, 1) := by decide +kernel
theorem dX12_ofEntrant_54 : decode cX12_ofEntrant 54 = .ok (.aload_n 0, 1) := by decide +kernel
theorem dX12_ofEntrant_55 : decode cX12_ofEntrant 55 = .ok (.iload_n 1, 1) := by decide +kernel
theorem dX12_ofEntrant_56 : decode cX12_ofEntrant 56 = .ok (.invokevirtual 106, 3) := by decide +kernel
theorem dX12_ofEntrant_59 : decode cX12_ofEntrant 59 = .ok (.ireturn, 1) := by decide +kernel
theorem dX12_ofEntrant_60 : decode cX12_ofEntrant 60 = .ok (.aload_n 0, 1) := by decide +kernel
theorem dX12_ofEntrant_61 : decode cX12_ofEntrant 61 = .ok (.iload_n 1, 1) := by decide +kernel
theorem dX12_ofEntrant_62 : decode cX12_ofEntrant 62 = .ok (.invokevirtual 119, 3) := by decide +kernel
theorem dX12_ofEntrant_65 : decode cX12_ofEntrant 65 = .ok (.ifCond .eq 16, 3) := by decide +kernel
theorem dX12_ofEntrant_68 : decode cX12_ofEntrant 68 = .ok (.aload_n 0, 1) := by decide +kernel
theorem dX12_ofEntrant_69 : decode cX12_ofEntrant 69 = .ok (.getfield 7, 3) := by decide +kernel
theorem dX12_ofEntrant_72 : decode cX12_ofEntrant 72 = .ok (.sipush 474, 3) := by decide +kernel
theorem dX12_ofEntrant_75 : decode cX12_ofEntrant 75 = .ok (.iload_n 1, 1) := by decide +kernel
theorem dX12_ofEntrant_76 : decode cX12_ofEntrant 76 = .ok (.iadd, 1) := by decide +kernel
theorem dX12_ofEntrant_77 : decode cX12_ofEntrant 77 = .ok (.iaload, 1) := by decide +kernel
theorem dX12_ofEntrant_78 : decode cX12_ofEntrant 78 = .ok (.goto 4, 3) := by decide +kernel
theorem dX12_ofEntrant_81 : decode cX12_ofEntrant 81 = .ok (.iconst (-1), 1) := by decide +kernel
theorem dX12_ofEntrant_82 : decode cX12_ofEntrant 82 = .ok (.ireturn, 1) := by decide +kernel
theorem dX12_ofEntrant_83 : decode cX12_ofEntrant 83 = .ok (.aload_n 0, 1) := by decide +kernel
theorem dX12_ofEntrant_84 : decode cX12_ofEntrant 84 = .ok (.aload_n 0, 1) := by decide +kernel
theorem dX12_ofEntrant_85 : decode cX12_ofEntrant 85 = .ok (.getfield 7, 3) := by decide +kernel
theorem dX12_ofEntrant_88 : decode cX12_ofEntrant 88 = .ok (.iconst 3, 1) := by decide +kernel
theorem dX12_ofEntrant_89 : decode cX12_ofEntrant 89 = .ok (.iaload, 1) := by decide +kernel
theorem dX12_ofEntrant_90 : decode cX12_ofEntrant 90 = .ok (.iconst 2, 1) := by decide +kernel
theorem dX12_ofEntrant_91 : decode cX12_ofEntrant 91 = .ok (.if_icmp .ne 9, 3) := by decide +kernel
theorem dX12_ofEntrant_94 : decode cX12_ofEntrant 94 = .ok (.sipush 570, 3) := by decide +kernel
theorem dX12_ofEntrant_97 : decode cX12_ofEntrant 97 = .ok (.goto 6, 3) := by decide +kernel
theorem dX12_ofEntrant_100 : decode cX12_ofEntrant 100 = .ok (.sipush 486, 3) := by decide +kernel
theorem dX12_ofEntrant_103 : decode cX12_ofEntrant 103 = .ok (.iload_n 1, 1) := by decide +kernel
theorem dX12_ofEntrant_104 : decode cX12_ofEntrant 104 = .ok (.invokevirtual 122, 3) := by decide +kernel
theorem dX12_ofEntrant_107 : decode cX12_ofEntrant 107 = .ok (.ireturn, 1) := by decide +kernel
theorem dX12_ofEntrant_108 : decode cX12_ofEntrant 108 = .ok (.aload_n 0, 1) := by decide +kernel
theorem dX12_ofEntrant_109 : decode cX12_ofEntrant 109 = .ok (.iload_n 1, 1) := by decide +kernel
theorem dX12_ofEntrant_110 : decode cX12_ofEntrant 110 = .ok (.invokevirtual 134, 3) := by decide +kernel
theorem dX12_ofEntrant_113 : decode cX12_ofEntrant 113 = .ok (.ireturn, 1) := by decide +kernel
theorem dX12_ofEntrant_114 : decode cX12_ofEntrant 114 = .ok (.aload_n 0, 1) := by decide +kernel
theorem dX12_ofEntrant_115 : decode cX12_ofEntrant 115 = .ok (.iload_n 1, 1) := by decide +kernel
theorem dX12_ofEntrant_116 : decode cX12_ofEntrant 116 = .ok (.invokevirtual 143, 3) := by decide +kernel
theorem dX12_ofEntrant_119 : decode cX12_ofEntrant 119 = .ok (.ifCond .eq 7, 3) := by decide +kernel
theorem dX12_ofEntrant_122 : decode cX12_ofEntrant 122 = .ok (.iconst 1, 1) := by decide +kernel
theorem dX12_ofEntrant_123 : decode cX12_ofEntrant 123 = .ok (.goto 4, 3) := by decide +kernel
theorem dX12_ofEntrant_126 : decode cX12_ofEntrant 126 = .ok (.iconst 0, 1) := by decide +kernel
theorem dX12_ofEntrant_127 : decode cX12_ofEntrant 127 = .ok (.ireturn, 1) := by decide +kernel
theorem dX12_ofEntrant_128 : decode cX12_ofEntrant 128 = .ok (.aload_n 0, 1) := by decide +kernel
theorem dX12_ofEntrant_129 : decode cX12_ofEntrant 129 = .ok (.getfield 7, 3) := by decide +kernel
theorem dX12_ofEntrant_132 : decode cX12_ofEntrant 132 = .ok (.sipush 654, 3) := by decide +kernel
theorem dX12_ofEntrant_135 : decode cX12_ofEntrant 135 = .ok (.iload_n 1, 1) := by decide +kernel
theorem dX12_ofEntrant_136 : decode cX12_ofEntrant 136 = .ok (.iadd, 1) := by decide +kernel
theorem dX12_ofEntrant_137 : decode cX12_ofEntrant 137 = .ok (.iaload, 1) := by decide +kernel
theorem dX12_ofEntrant_138 : decode cX12_ofEntrant 138 = .ok (.ireturn, 1) := by decide +kernel
theorem dX12_ofEntrant_139 : decode cX12_ofEntrant 139 = .ok (.aload_n 0, 1) := by decide +kernel
theorem dX12_ofEntrant_140 : decode cX12_ofEntrant 140 = .ok (.getfield 7, 3) := by decide +kernel
theorem dX12_ofEntrant_143 : decode cX12_ofEntrant 143 = .ok (.sipush 654, 3) := by decide +kernel
theorem dX12_ofEntrant_146 : decode cX12_ofEntrant 146 = .ok (.iload_n 1, 1) := by decide +kernel
theorem dX12_ofEntrant_147 : decode cX12_ofEntrant 147 = .ok (.iadd, 1) := by decide +kernel
theorem dX12_ofEntrant_148 : decode cX12_ofEntrant 148 = .ok (.iaload, 1) := by decide +kernel
theorem dX12_ofEntrant_149 : decode cX12_ofEntrant 149 = .ok (.iconst 1, 1) := by decide +kernel
theorem dX12_ofEntrant_150 : decode cX12_ofEntrant 150 = .ok (.if_icmp .ne 15, 3) := by decide +kernel
theorem dX12_ofEntrant_153 : decode cX12_ofEntrant 153 = .ok (.aload_n 0, 1) := by decide +kernel
theorem dX12_ofEntrant_154 : decode cX12_ofEntrant 154 = .ok (.sipush 570, 3) := by decide +kernel
theorem dX12_ofEntrant_157 : decode cX12_ofEntrant 157 = .ok (.iload_n 1, 1) := by decide +kernel
theorem dX12_ofEntrant_158 : decode cX12_ofEntrant 158 = .ok (.iconst (-1), 1) := by decide +kernel
theorem dX12_ofEntrant_159 : decode cX12_ofEntrant 159 = .ok (.invokevirtual 116, 3) := by decide +kernel
theorem dX12_ofEntrant_162 : decode cX12_ofEntrant 162 = .ok (.goto 4, 3) := by decide +kernel
theorem dX12_ofEntrant_165 : decode cX12_ofEntrant 165 = .ok (.iconst (-1), 1) := by decide +kernel
theorem dX12_ofEntrant_166 : decode cX12_ofEntrant 166 = .ok (.ireturn, 1) := by decide +kernel
set_option maxRecDepth 20000 in
theorem ggX12_entrant_X12_isEntrant : GoodIn wsX12_entrant wsX12_isEntrant := goodIn_r _ [6, 7, 8, 9, 5, 10, 54, 55, 56, 57, 58, 59, 60, 61, 62, 63, 64, 65] (by decide +kernel) (by decide +kernel)
set_option maxRecDepth 20000 in
theorem gX12_entrant_X12_isEntrant : GoodIn wsX12_entrant (wsV RX12 53 RX12 yX12_isEntrant wsX12_isEntrant) := goodIn_app (goodIn_of _ (by decide +kernel)) ggX12_entrant_X12_isEntrant
set_option maxRecDepth 20000 in
theorem ggX12_entrant_X12_in : GoodIn wsX12_entrant wsX12_in := goodIn_r _ [10] (by decide +kernel) (by decide +kernel)
set_option maxRecDepth 20000 in
theorem gX12_entrant_X12_in : GoodIn wsX12_entrant (va_wsS RX12 41 yX12_in wsX12_in) := goodIn_app (goodIn_of _ (by decide +kernel)) ggX12_entrant_X12_in
set_option maxRecDepth 20000 in
theorem ggX12_entrant_X12_ofEntrant : GoodIn wsX12_entrant wsX12_ofEntrant := goodIn_r _ [14, 7, 15, 16, 17, 5, 18, 19, 20, 21, 22, 8, 9, 10, 23, 24, 25, 26, 27, 28, 29, 30, 31, 32, 33, 34, 35, 36, 37, 38, 39, 40, 41, 42, 43, 44, 45, 46, 47, 48, 49, 50, 51, 52, 53, 54, 55, 56, 57, 58, 59, 60, 61, 62, 63, 64, 65] (by decide +kernel) (by decide +kernel)
set_option maxRecDepth 20000 in
theorem gX12_entrant_X12_ofEntrant : GoodIn wsX12_entrant (wsV RX12 169 RX12 yX12_ofEntrant wsX12_ofEntrant) := goodIn_app (goodIn_of _ (by decide +kernel)) ggX12_entrant_X12_ofEntrant
theorem dX12_entrant_0 : decode cX12_entrant 0 = .ok (.aload_n 0, 1) := by decide +kernel
theorem dX12_entrant_1 : decode cX12_entrant 1 = .ok (.aload_n 0, 1) := by decide +kernel
theorem dX12_entrant_2 : decode cX12_entrant 2 = .ok (.iload_n 1, 1) := by decide +kernel
theorem dX12_entrant_3 : decode cX12_entrant 3 = .ok (.invokevirtual 53, 3) := by decide +kernel
theorem dX12_entrant_6 : decode cX12_entrant 6 = .ok (.ifCond .ne 7, 3) := by decide +kernel
theorem dX12_entrant_9 : decode cX12_entrant 9 = .ok (.iconst 1, 1) := by decide +kernel
theorem dX12_entrant_10 : decode cX12_entrant 10 = .ok (.goto 18, 3) := by decide +kernel
theorem dX12_entrant_13 : decode cX12_entrant 13 = .ok (.iload_n 2, 1) := by decide +kernel
theorem dX12_entrant_14 : decode cX12_entrant 14 = .ok (.iconst 0, 1) := by decide +kernel
theorem dX12_entrant_15 : decode cX12_entrant 15 = .ok (.bipush 7, 2) := by decide +kernel
theorem dX12_entrant_17 : decode cX12_entrant 17 = .ok (.invokestatic 41, 3) := by decide +kernel
theorem dX12_entrant_20 : decode cX12_entrant 20 = .ok (.ifCond .eq 7, 3) := by decide +kernel
theorem dX12_entrant_23 : decode cX12_entrant 23 = .ok (.iconst 0, 1) := by decide +kernel
theorem dX12_entrant_24 : decode cX12_entrant 24 = .ok (.goto 4, 3) := by decide +kernel
theorem dX12_entrant_27 : decode cX12_entrant 27 = .ok (.iconst 2, 1) := by decide +kernel
theorem dX12_entrant_28 : decode cX12_entrant 28 = .ok (.putfield 31, 3) := by decide +kernel
theorem dX12_entrant_31 : decode cX12_entrant 31 = .ok (.aload_n 0, 1) := by decide +kernel
theorem dX12_entrant_32 : decode cX12_entrant 32 = .ok (.getfield 31, 3) := by decide +kernel
theorem dX12_entrant_35 : decode cX12_entrant 35 = .ok (.ifCond .eq 7, 3) := by decide +kernel
theorem dX12_entrant_38 : decode cX12_entrant 38 = .ok (.iconst 0, 1) := by decide +kernel
theorem dX12_entrant_39 : decode cX12_entrant 39 = .ok (.goto 9, 3) := by decide +kernel
theorem dX12_entrant_42 : decode cX12_entrant 42 = .ok (.aload_n 0, 1) := by decide +kernel
theorem dX12_entrant_43 : decode cX12_entrant 43 = .ok (.iload_n 1, 1) := by decide +kernel
theorem dX12_entrant_44 : decode cX12_entrant 44 = .ok (.iload_n 2, 1) := by decide +kernel
theorem dX12_entrant_45 : decode cX12_entrant 45 = .ok (.invokevirtual 169, 3) := by decide +kernel
theorem dX12_entrant_48 : decode cX12_entrant 48 = .ok (.ireturn, 1) := by decide +kernel
set_option maxRecDepth 20000 in
theorem ggX12_marked_X12_isJuror : GoodIn wsX12_marked wsX12_isJuror := goodIn_r _ [7, 2, 8, 9, 6, 10, 18, 19, 20, 21, 22, 23, 24, 25, 26, 27, 28, 29] (by decide +kernel) (by decide +kernel)
set_option maxRecDepth 20000 in
theorem gX12_marked_X12_isJuror : GoodIn wsX12_marked (wsV RX12 49 RX12 yX12_isJuror wsX12_isJuror) := goodIn_app (goodIn_of _ (by decide +kernel)) ggX12_marked_X12_isJuror
set_option maxRecDepth 20000 in
theorem ggX12_marked_X12_isEntrant : GoodIn wsX12_marked wsX12_isEntrant := goodIn_r _ [14, 2, 8, 9, 6, 10, 18, 19, 20, 21, 22, 23, 24, 25, 26, 27, 28, 29] (by decide +kernel) (by decide +kernel)
set_option maxRecDepth 20000 in
theorem gX12_marked_X12_isEntrant : GoodIn wsX12_marked (wsV RX12 53 RX12 yX12_isEntrant wsX12_isEntrant) := goodIn_app (goodIn_of _ (by decide +kernel)) ggX12_marked_X12_isEntrant
set_option maxRecDepth 20000 in
theorem ggX12_marked_X12_seat : GoodIn wsX12_marked wsX12_seat := goodIn_r _ [17] (by decide +kernel) (by decide +kernel)
set_option maxRecDepth 20000 in
theorem gX12_marked_X12_seat : GoodIn wsX12_marked (va_wsS RX12 45 yX12_seat wsX12_seat) := goodIn_app (goodIn_of _ (by decide +kernel)) ggX12_marked_X12_seat
theorem dX12_marked_0 : decode cX12_marked 0 = .ok (.aload_n 0, 1) := by decide +kernel
theorem dX12_marked_1 : decode cX12_marked 1 = .ok (.aload_n 0, 1) := by decide +kernel
theorem dX12_marked_2 : decode cX12_marked 2 = .ok (.iload_n 1, 1) := by decide +kernel
theorem dX12_marked_3 : decode cX12_marked 3 = .ok (.invokevirtual 49, 3) := by decide +kernel
theorem dX12_marked_6 : decode cX12_marked 6 = .ok (.ifCond .eq 15, 3) := by decide +kernel
theorem dX12_marked_9 : decode cX12_marked 9 = .ok (.aload_n 0, 1) := by decide +kernel
theorem dX12_marked_10 : decode cX12_marked 10 = .ok (.iload_n 2, 1) := by decide +kernel
theorem dX12_marked_11 : decode cX12_marked 11 = .ok (.invokevirtual 53, 3) := by decide +kernel
theorem dX12_marked_14 : decode cX12_marked 14 = .ok (.ifCond .eq 7, 3) := by decide +kernel
theorem dX12_marked_17 : decode cX12_marked 17 = .ok (.iconst 0, 1) := by decide +kernel
theorem dX12_marked_18 : decode cX12_marked 18 = .ok (.goto 4, 3) := by decide +kernel
theorem dX12_marked_21 : decode cX12_marked 21 = .ok (.iconst 1, 1) := by decide +kernel
theorem dX12_marked_22 : decode cX12_marked 22 = .ok (.putfield 31, 3) := by decide +kernel
theorem dX12_marked_25 : decode cX12_marked 25 = .ok (.aload_n 0, 1) := by decide +kernel
theorem dX12_marked_26 : decode cX12_marked 26 = .ok (.getfield 31, 3) := by decide +kernel
theorem dX12_marked_29 : decode cX12_marked 29 = .ok (.ifCond .eq 7, 3) := by decide +kernel
theorem dX12_marked_32 : decode cX12_marked 32 = .ok (.iconst 0, 1) := by decide +kernel
theorem dX12_marked_33 : decode cX12_marked 33 = .ok (.goto 27, 3) := by decide +kernel
theorem dX12_marked_36 : decode cX12_marked 36 = .ok (.aload_n 0, 1) := by decide +kernel
theorem dX12_marked_37 : decode cX12_marked 37 = .ok (.getfield 7, 3) := by decide +kernel
theorem dX12_marked_40 : decode cX12_marked 40 = .ok (.iload_n 3, 1) := by decide +kernel
theorem dX12_marked_41 : decode cX12_marked 41 = .ok (.ifCond .eq 9, 3) := by decide +kernel
theorem dX12_marked_44 : decode cX12_marked 44 = .ok (.sipush 570, 3) := by decide +kernel
theorem dX12_marked_47 : decode cX12_marked 47 = .ok (.goto 6, 3) := by decide +kernel
theorem dX12_marked_50 : decode cX12_marked 50 = .ok (.sipush 486, 3) := by decide +kernel
theorem dX12_marked_53 : decode cX12_marked 53 = .ok (.iload_n 1, 1) := by decide +kernel
theorem dX12_marked_54 : decode cX12_marked 54 = .ok (.iload_n 2, 1) := by decide +kernel
theorem dX12_marked_55 : decode cX12_marked 55 = .ok (.invokestatic 45, 3) := by decide +kernel
theorem dX12_marked_58 : decode cX12_marked 58 = .ok (.iadd, 1) := by decide +kernel
theorem dX12_marked_59 : decode cX12_marked 59 = .ok (.iaload, 1) := by decide +kernel
theorem dX12_marked_60 : decode cX12_marked 60 = .ok (.ireturn, 1) := by decide +kernel
set_option maxRecDepth 20000 in
theorem ggX12_history_X12_isEntrant : GoodIn wsX12_history wsX12_isEntrant := goodIn_r _ [7, 2, 8, 9, 6, 10, 14, 15, 16, 17, 18, 19, 20, 21, 22, 23, 24, 25] (by decide +kernel) (by decide +kernel)
set_option maxRecDepth 20000 in
theorem gX12_history_X12_isEntrant : GoodIn wsX12_history (wsV RX12 53 RX12 yX12_isEntrant wsX12_isEntrant) := goodIn_app (goodIn_of _ (by decide +kernel)) ggX12_history_X12_isEntrant
set_option maxRecDepth 20000 in
theorem ggX12_history_X12_isRound : GoodIn wsX12_history wsX12_isRound := goodIn_r _ [13, 8, 9, 6, 10] (by decide +kernel) (by decide +kernel)
set_option maxRecDepth 20000 in
theorem gX12_history_X12_isRound : GoodIn wsX12_history (va_wsS RX12 63 yX12_isRound wsX12_isRound) := goodIn_app (goodIn_of _ (by decide +kernel)) ggX12_history_X12_isRound
theorem dX12_history_0 : decode cX12_history 0 = .ok (.aload_n 0, 1) := by decide +kernel
theorem dX12_history_1 : decode cX12_history 1 = .ok (.aload_n 0, 1) := by decide +kernel
theorem dX12_history_2 : decode cX12_history 2 = .ok (.iload_n 1, 1) := by decide +kernel
theorem dX12_history_3 : decode cX12_history 3 = .ok (.invokevirtual 53, 3) := by decide +kernel
theorem dX12_history_6 : decode cX12_history 6 = .ok (.ifCond .eq 14, 3) := by decide +kernel
theorem dX12_history_9 : decode cX12_history 9 = .ok (.iload_n 2, 1) := by decide +kernel
theorem dX12_history_10 : decode cX12_history 10 = .ok (.invokestatic 63, 3) := by decide +kernel
theorem dX12_history_13 : decode cX12_history 13 = .ok (.ifCond .eq 7, 3) := by decide +kernel
theorem dX12_history_16 : decode cX12_history 16 = .ok (.iconst 0, 1) := by decide +kernel
theorem dX12_history_17 : decode cX12_history 17 = .ok (.goto 4, 3) := by decide +kernel
theorem dX12_history_20 : decode cX12_history 20 = .ok (.iconst 1, 1) := by decide +kernel
theorem dX12_history_21 : decode cX12_history 21 = .ok (.putfield 31, 3) := by decide +kernel
theorem dX12_history_24 : decode cX12_history 24 = .ok (.aload_n 0, 1) := by decide +kernel
theorem dX12_history_25 : decode cX12_history 25 = .ok (.getfield 31, 3) := by decide +kernel
theorem dX12_history_28 : decode cX12_history 28 = .ok (.ifCond .eq 7, 3) := by decide +kernel
theorem dX12_history_31 : decode cX12_history 31 = .ok (.iconst 0, 1) := by decide +kernel
theorem dX12_history_32 : decode cX12_history 32 = .ok (.goto 17, 3) := by decide +kernel
theorem dX12_history_35 : decode cX12_history 35 = .ok (.aload_n 0, 1) := by decide +kernel
theorem dX12_history_36 : decode cX12_history 36 = .ok (.getfield 7, 3) := by decide +kernel
theorem dX12_history_39 : decode cX12_history 39 = .ok (.sipush 666, 3) := by decide +kernel
theorem dX12_history_42 : decode cX12_history 42 = .ok (.iconst 4, 1) := by decide +kernel
theorem dX12_history_43 : decode cX12_history 43 = .ok (.iload_n 1, 1) := by decide +kernel
theorem dX12_history_44 : decode cX12_history 44 = .ok (.imul, 1) := by decide +kernel
theorem dX12_history_45 : decode cX12_history 45 = .ok (.iadd, 1) := by decide +kernel
theorem dX12_history_46 : decode cX12_history 46 = .ok (.iload_n 2, 1) := by decide +kernel
theorem dX12_history_47 : decode cX12_history 47 = .ok (.iadd, 1) := by decide +kernel
theorem dX12_history_48 : decode cX12_history 48 = .ok (.iaload, 1) := by decide +kernel
theorem dX12_history_49 : decode cX12_history 49 = .ok (.ireturn, 1) := by decide +kernel
set_option maxRecDepth 20000 in
theorem ggX12_stage_X12_in : GoodIn wsX12_stage wsX12_in := goodIn_r _ [6] (by decide +kernel) (by decide +kernel)
set_option maxRecDepth 20000 in
theorem gX12_stage_X12_in : GoodIn wsX12_stage (va_wsS RX12 41 yX12_in wsX12_in) := goodIn_app (goodIn_of _ (by decide +kernel)) ggX12_stage_X12_in
theorem dX12_stage_0 : decode cX12_stage 0 = .ok (.aload_n 0, 1) := by decide +kernel
theorem dX12_stage_1 : decode cX12_stage 1 = .ok (.iconst 0, 1) := by decide +kernel
theorem dX12_stage_2 : decode cX12_stage 2 = .ok (.putfield 31, 3) := by decide +kernel
theorem dX12_stage_5 : decode cX12_stage 5 = .ok (.iload_n 1, 1) := by decide +kernel
theorem dX12_stage_6 : decode cX12_stage 6 = .ok (.iconst 0, 1) := by decide +kernel
theorem dX12_stage_7 : decode cX12_stage 7 = .ok (.aload_n 0, 1) := by decide +kernel
theorem dX12_stage_8 : decode cX12_stage 8 = .ok (.getfield 7, 3) := by decide +kernel
theorem dX12_stage_11 : decode cX12_stage 11 = .ok (.bipush 7, 2) := by decide +kernel
theorem dX12_stage_13 : decode cX12_stage 13 = .ok (.iaload, 1) := by decide +kernel
theorem dX12_stage_14 : decode cX12_stage 14 = .ok (.iconst 1, 1) := by decide +kernel
theorem dX12_stage_15 : decode cX12_stage 15 = .ok (.isub, 1) := by decide +kernel
theorem dX12_stage_16 : decode cX12_stage 16 = .ok (.invokestatic 41, 3) := by decide +kernel
theorem dX12_stage_19 : decode cX12_stage 19 = .ok (.ifCond .eq 16, 3) := by decide +kernel
theorem dX12_stage_22 : decode cX12_stage 22 = .ok (.aload_n 0, 1) := by decide +kernel
theorem dX12_stage_23 : decode cX12_stage 23 = .ok (.getfield 7, 3) := by decide +kernel
theorem dX12_stage_26 : decode cX12_stage 26 = .ok (.sipush 462, 3) := by decide +kernel
theorem dX12_stage_29 : decode cX12_stage 29 = .ok (.iload_n 1, 1) := by decide +kernel
theorem dX12_stage_30 : decode cX12_stage 30 = .ok (.iadd, 1) := by decide +kernel
theorem dX12_stage_31 : decode cX12_stage 31 = .ok (.iaload, 1) := by decide +kernel
theorem dX12_stage_32 : decode cX12_stage 32 = .ok (.goto 4, 3) := by decide +kernel
theorem dX12_stage_35 : decode cX12_stage 35 = .ok (.iconst (-1), 1) := by decide +kernel
theorem dX12_stage_36 : decode cX12_stage 36 = .ok (.ireturn, 1) := by decide +kernel
set_option maxRecDepth 20000 in
theorem ggX12_wouldBe_X12_in : GoodIn wsX12_wouldBe wsX12_in := goodIn_r _ [7] (by decide +kernel) (by decide +kernel)
set_option maxRecDepth 20000 in
theorem gX12_wouldBe_X12_in : GoodIn wsX12_wouldBe (va_wsS RX12 41 yX12_in wsX12_in) := goodIn_app (goodIn_of _ (by decide +kernel)) ggX12_wouldBe_X12_in
set_option maxRecDepth 20000 in
theorem ggX12_wouldBe_X12_isClosable : GoodIn wsX12_wouldBe wsX12_isClosable := goodIn_r _ [11, 2, 12, 13, 14, 6, 15, 16, 17, 18, 19, 20, 21, 22, 23, 4, 5, 7, 24, 25, 26, 27, 28, 29, 30, 31, 32, 33, 34, 35, 36, 37, 38, 39, 40, 41, 42, 64, 65, 66, 67, 68, 69, 70, 71, 72, 73, 74, 75] (by decide +kernel) (by decide +kernel)
set_option maxRecDepth 20000 in
theorem gX12_wouldBe_X12_isClosable : GoodIn wsX12_wouldBe (wsV RX12 146 RX12 yX12_isClosable wsX12_isClosable) := goodIn_app (goodIn_of _ (by decide +kernel)) ggX12_wouldBe_X12_isClosable
set_option maxRecDepth 20000 in
theorem ggX12_wouldBe_X12_decide : GoodIn wsX12_wouldBe wsX12_decide := goodIn_r _ [46, 3, 2, 47, 48, 49, 50, 6, 51, 12, 13, 14, 15, 52, 53, 54, 55, 56, 57, 58, 59, 60, 61, 62, 63, 32, 33, 34, 35, 36, 37, 38, 39, 40, 41, 42, 20, 21, 22, 23, 4, 5, 7, 64, 65, 66, 67, 68, 69, 70, 71, 72, 73, 74, 75] (by decide +kernel) (by decide +kernel)
set_option maxRecDepth 20000 in
theorem gX12_wouldBe_X12_decide : GoodIn wsX12_wouldBe (wsV RX12 150 RX12 yX12_decide wsX12_decide) := goodIn_app (goodIn_of _ (by decide +kernel)) ggX12_wouldBe_X12_decide
theorem dX12_wouldBe_0 : decode cX12_wouldBe 0 = .ok (.aload_n 0, 1) := by decide +kernel
theorem dX12_wouldBe_1 : decode cX12_wouldBe 1 = .ok (.iload_n 1, 1) := by decide +kernel
theorem dX12_wouldBe_2 : decode cX12_wouldBe 2 = .ok (.iconst 0, 1) := by decide +kernel
theorem dX12_wouldBe_3 : decode cX12_wouldBe 3 = .ok (.iconst 2, 1) := by decide +kernel
theorem dX12_wouldBe_4 : decode cX12_wouldBe 4 = .ok (.invokestatic 41, 3) := by decide +kernel
theorem dX12_wouldBe_7 : decode cX12_wouldBe 7 = .ok (.ifCond .eq 7, 3) := by decide +kernel
theorem dX12_wouldBe_10 : decode cX12_wouldBe 10 = .ok (.iconst 0, 1) := by decide +kernel
theorem dX12_wouldBe_11 : decode cX12_wouldBe 11 = .ok (.goto 4, 3) := by decide +kernel
theorem dX12_wouldBe_14 : decode cX12_wouldBe 14 = .ok (.iconst 1, 1) := by decide +kernel
theorem dX12_wouldBe_15 : decode cX12_wouldBe 15 = .ok (.putfield 31, 3) := by decide +kernel
theorem dX12_wouldBe_18 : decode cX12_wouldBe 18 = .ok (.aload_n 0, 1) := by decide +kernel
theorem dX12_wouldBe_19 : decode cX12_wouldBe 19 = .ok (.getfield 31, 3) := by decide +kernel
theorem dX12_wouldBe_22 : decode cX12_wouldBe 22 = .ok (.ifCond .ne 20, 3) := by decide +kernel
theorem dX12_wouldBe_25 : decode cX12_wouldBe 25 = .ok (.aload_n 0, 1) := by decide +kernel
theorem dX12_wouldBe_26 : decode cX12_wouldBe 26 = .ok (.getfield 7, 3) := by decide +kernel
theorem dX12_wouldBe_29 : decode cX12_wouldBe 29 = .ok (.iconst 3, 1) := by decide +kernel
theorem dX12_wouldBe_30 : decode cX12_wouldBe 30 = .ok (.iaload, 1) := by decide +kernel
theorem dX12_wouldBe_31 : decode cX12_wouldBe 31 = .ok (.iconst 1, 1) := by decide +kernel
theorem dX12_wouldBe_32 : decode cX12_wouldBe 32 = .ok (.if_icmp .ne 10, 3) := by decide +kernel
theorem dX12_wouldBe_35 : decode cX12_wouldBe 35 = .ok (.aload_n 0, 1) := by decide +kernel
theorem dX12_wouldBe_36 : decode cX12_wouldBe 36 = .ok (.invokevirtual 146, 3) := by decide +kernel
theorem dX12_wouldBe_39 : decode cX12_wouldBe 39 = .ok (.ifCond .ne 16, 3) := by decide +kernel
theorem dX12_wouldBe_42 : decode cX12_wouldBe 42 = .ok (.aload_n 0, 1) := by decide +kernel
theorem dX12_wouldBe_43 : decode cX12_wouldBe 43 = .ok (.getfield 31, 3) := by decide +kernel
theorem dX12_wouldBe_46 : decode cX12_wouldBe 46 = .ok (.ifCond .eq 7, 3) := by decide +kernel
theorem dX12_wouldBe_49 : decode cX12_wouldBe 49 = .ok (.iconst 0, 1) := by decide +kernel
theorem dX12_wouldBe_50 : decode cX12_wouldBe 50 = .ok (.goto 4, 3) := by decide +kernel
theorem dX12_wouldBe_53 : decode cX12_wouldBe 53 = .ok (.iconst (-1), 1) := by decide +kernel
theorem dX12_wouldBe_54 : decode cX12_wouldBe 54 = .ok (.ireturn, 1) := by decide +kernel
theorem dX12_wouldBe_55 : decode cX12_wouldBe 55 = .ok (.aload_n 0, 1) := by decide +kernel
theorem dX12_wouldBe_56 : decode cX12_wouldBe 56 = .ok (.sipush 486, 3) := by decide +kernel
theorem dX12_wouldBe_59 : decode cX12_wouldBe 59 = .ok (.aload_n 0, 1) := by decide +kernel
theorem dX12_wouldBe_60 : decode cX12_wouldBe 60 = .ok (.getfield 7, 3) := by decide +kernel
theorem dX12_wouldBe_63 : decode cX12_wouldBe 63 = .ok (.bipush 102, 2) := by decide +kernel
theorem dX12_wouldBe_65 : decode cX12_wouldBe 65 = .ok (.bipush 6, 2) := by decide +kernel
theorem dX12_wouldBe_67 : decode cX12_wouldBe 67 = .ok (.aload_n 0, 1) := by decide +kernel
theorem dX12_wouldBe_68 : decode cX12_wouldBe 68 = .ok (.getfield 7, 3) := by decide +kernel
theorem dX12_wouldBe_71 : decode cX12_wouldBe 71 = .ok (.iconst 4, 1) := by decide +kernel
theorem dX12_wouldBe_72 : decode cX12_wouldBe 72 = .ok (.iaload, 1) := by decide +kernel
theorem dX12_wouldBe_73 : decode cX12_wouldBe 73 = .ok (.imul, 1) := by decide +kernel
theorem dX12_wouldBe_74 : decode cX12_wouldBe 74 = .ok (.iadd, 1) := by decide +kernel
theorem dX12_wouldBe_75 : decode cX12_wouldBe 75 = .ok (.iconst 5, 1) := by decide +kernel
theorem dX12_wouldBe_76 : decode cX12_wouldBe 76 = .ok (.iadd, 1) := by decide +kernel
theorem dX12_wouldBe_77 : decode cX12_wouldBe 77 = .ok (.iaload, 1) := by decide +kernel
theorem dX12_wouldBe_78 : decode cX12_wouldBe 78 = .ok (.invokevirtual 150, 3) := by decide +kernel
theorem dX12_wouldBe_81 : decode cX12_wouldBe 81 = .ok (.aload_n 0, 1) := by decide +kernel
theorem dX12_wouldBe_82 : decode cX12_wouldBe 82 = .ok (.getfield 22, 3) := by decide +kernel
theorem dX12_wouldBe_85 : decode cX12_wouldBe 85 = .ok (.iload_n 1, 1) := by decide +kernel
theorem dX12_wouldBe_86 : decode cX12_wouldBe 86 = .ok (.iaload, 1) := by decide +kernel
theorem dX12_wouldBe_87 : decode cX12_wouldBe 87 = .ok (.ireturn, 1) := by decide +kernel
set_option maxRecDepth 20000 in
theorem ggX12_neededMark_X12_isJuror : GoodIn wsX12_neededMark wsX12_isJuror := goodIn_r _ [8, 2, 9, 10, 7, 11, 47, 48, 49, 50, 51, 52, 53, 54, 55, 56, 57, 58] (by decide +kernel) (by decide +kernel)
set_option maxRecDepth 20000 in
theorem gX12_neededMark_X12_isJuror : GoodIn wsX12_neededMark (wsV RX12 49 RX12 yX12_isJuror wsX12_isJuror) := goodIn_app (goodIn_of _ (by decide +kernel)) ggX12_neededMark_X12_isJuror
set_option maxRecDepth 20000 in
theorem ggX12_neededMark_X12_isEntrant : GoodIn wsX12_neededMark wsX12_isEntrant := goodIn_r _ [15, 2, 9, 10, 7, 11, 47, 48, 49, 50, 51, 52, 53, 54, 55, 56, 57, 58] (by decide +kernel) (by decide +kernel)
set_option maxRecDepth 20000 in
theorem gX12_neededMark_X12_isEntrant : GoodIn wsX12_neededMark (wsV RX12 53 RX12 yX12_isEntrant wsX12_isEntrant) := goodIn_app (goodIn_of _ (by decide +kernel)) ggX12_neededMark_X12_isEntrant
set_option maxRecDepth 20000 in
theorem ggX12_neededMark_X12_in : GoodIn wsX12_neededMark wsX12_in := goodIn_r _ [11] (by decide +kernel) (by decide +kernel)
set_option maxRecDepth 20000 in
theorem gX12_neededMark_X12_in : GoodIn wsX12_neededMark (va_wsS RX12 41 yX12_in wsX12_in) := goodIn_app (goodIn_of _ (by decide +kernel)) ggX12_neededMark_X12_in
set_option maxRecDepth 20000 in
theorem ggX12_neededMark_X12_mayMark : GoodIn wsX12_neededMark wsX12_mayMark := goodIn_r _ [19, 2, 20, 21, 22, 7, 23, 24, 25, 26, 27, 9, 10, 11, 28, 29, 30, 31, 32, 33, 34, 47, 48, 49, 50, 51, 52, 53, 54, 55, 56, 57, 58] (by decide +kernel) (by decide +kernel)
set_option maxRecDepth 20000 in
theorem gX12_neededMark_X12_mayMark : GoodIn wsX12_neededMark (wsV RX12 128 RX12 yX12_mayMark wsX12_mayMark) := goodIn_app (goodIn_of _ (by decide +kernel)) ggX12_neededMark_X12_mayMark
set_option maxRecDepth 20000 in
theorem ggX12_neededMark_X12_seat : GoodIn wsX12_neededMark wsX12_seat := goodIn_r _ [34] (by decide +kernel) (by decide +kernel)
set_option maxRecDepth 20000 in
theorem gX12_neededMark_X12_seat : GoodIn wsX12_neededMark (va_wsS RX12 45 yX12_seat wsX12_seat) := goodIn_app (goodIn_of _ (by decide +kernel)) ggX12_neededMark_X12_seat
set_option maxRecDepth 20000 in
theorem ggX12_neededMark_X12_scoreOf : GoodIn wsX12_neededMark wsX12_scoreOf := goodIn_r _ [38, 2, 39, 40, 41, 7, 42, 43, 44, 45, 46, 32, 33, 34, 28, 29, 30, 31, 20, 21, 22, 23, 24, 25, 26, 27, 9, 10, 11, 47, 48, 49, 50, 51, 52, 53, 54, 55, 56, 57, 58] (by decide +kernel) (by decide +kernel)
set_option maxRecDepth 20000 in
theorem gX12_neededMark_X12_scoreOf : GoodIn wsX12_neededMark (wsV RX12 134 RX12 yX12_scoreOf wsX12_scoreOf) := goodIn_app (goodIn_of _ (by decide +kernel)) ggX12_neededMark_X12_scoreOf
theorem dX12_neededMark_0 : decode cX12_neededMark 0 = .ok (.aload_n 0, 1) := by decide +kernel
theorem dX12_neededMark_1 : decode cX12_neededMark 1 = .ok (.aload_n 0, 1) := by decide +kernel
theorem dX12_neededMark_2 : decode cX12_neededMark 2 = .ok (.iload_n 1, 1) := by decide +kernel
theorem dX12_neededMark_3 : decode cX12_neededMark 3 = .ok (.invokevirtual 49, 3) := by decide +kernel
theorem dX12_neededMark_6 : decode cX12_neededMark 6 = .ok (.ifCond .eq 11, 3) := by decide +kernel
theorem dX12_neededMark_9 : decode cX12_neededMark 9 = .ok (.aload_n 0, 1) := by decide +kernel
theorem dX12_neededMark_10 : decode cX12_neededMark 10 = .ok (.iload_n 2, 1) := by decide +kernel
theorem dX12_neededMark_11 : decode cX12_neededMark 11 = .ok (.invokevirtual 53, 3) := by decide +kernel
theorem dX12_neededMark_14 : decode cX12_neededMark 14 = .ok (.ifCond .ne 7, 3) := by decide +kernel
theorem dX12_neededMark_17 : decode cX12_neededMark 17 = .ok (.iconst 1, 1) := by decide +kernel
theorem dX12_neededMark_18 : decode cX12_neededMark 18 = .ok (.goto 41, 3) := by decide +kernel
theorem dX12_neededMark_21 : decode cX12_neededMark 21 = .ok (.iload_n 3, 1) := by decide +kernel
theorem dX12_neededMark_22 : decode cX12_neededMark 22 = .ok (.iconst 0, 1) := by decide +kernel
theorem dX12_neededMark_23 : decode cX12_neededMark 23 = .ok (.ldc 172, 2) := by decide +kernel
theorem dX12_neededMark_25 : decode cX12_neededMark 25 = .ok (.invokestatic 41, 3) := by decide +kernel
theorem dX12_neededMark_28 : decode cX12_neededMark 28 = .ok (.ifCond .ne 7, 3) := by decide +kernel
theorem dX12_neededMark_31 : decode cX12_neededMark 31 = .ok (.iconst 2, 1) := by decide +kernel
theorem dX12_neededMark_32 : decode cX12_neededMark 32 = .ok (.goto 27, 3) := by decide +kernel
theorem dX12_neededMark_35 : decode cX12_neededMark 35 = .ok (.aload_n 0, 1) := by decide +kernel
