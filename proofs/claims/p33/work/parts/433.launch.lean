theorem tnestF_0 : ((.fieldLinkNest "PianoRounds" 38 "PianoRounds$Competition" "state" "I" "PianoRounds") : Cond) ∈ lw_tbl := List.mem_append_right _ (List.mem_of_getElem? (i := 216) (by decide +kernel))
theorem tnestF_1 : ((.fieldLinkNest "PianoRounds" 42 "PianoRounds$Competition" "works" "LPianoRounds$Works;" "PianoRounds") : Cond) ∈ lw_tbl := List.mem_append_right _ (List.mem_of_getElem? (i := 221) (by decide +kernel))
theorem tnestF_2 : ((.fieldLinkNest "PianoRounds" 46 "PianoRounds$Works" "count" "I" "PianoRounds") : Cond) ∈ lw_tbl := List.mem_append_right _ (List.mem_of_getElem? (i := 43) (by decide +kernel))
theorem tnestF_3 : ((.fieldLinkNest "PianoRounds" 73 "PianoRounds$Competition" "entrants" "LPianoRounds$Entrants;" "PianoRounds") : Cond) ∈ lw_tbl := List.mem_append_right _ (List.mem_of_getElem? (i := 223) (by decide +kernel))
theorem tnestF_4 : ((.fieldLinkNest "PianoRounds" 77 "PianoRounds$Entrants" "count" "I" "PianoRounds") : Cond) ∈ lw_tbl := List.mem_append_right _ (List.mem_of_getElem? (i := 65) (by decide +kernel))
theorem tnestF_5 : ((.fieldLinkNest "PianoRounds" 87 "PianoRounds$Competition" "jury" "LPianoRounds$Jury;" "PianoRounds") : Cond) ∈ lw_tbl := List.mem_append_right _ (List.mem_of_getElem? (i := 229) (by decide +kernel))
theorem tnestF_6 : ((.fieldLinkNest "PianoRounds" 125 "PianoRounds$Competition" "rules" "[[I" "PianoRounds") : Cond) ∈ lw_tbl := List.mem_append_right _ (List.mem_of_getElem? (i := 225) (by decide +kernel))
theorem tnestF_7 : ((.fieldLinkNest "PianoRounds" 135 "PianoRounds$Competition" "programs" "LPianoRounds$Programs;" "PianoRounds") : Cond) ∈ lw_tbl := List.mem_append_right _ (List.mem_of_getElem? (i := 227) (by decide +kernel))
theorem tnestF_8 : ((.fieldLinkNest "PianoRounds" 144 "PianoRounds$Text" "found" "I" "PianoRounds") : Cond) ∈ lw_tbl := List.mem_append_right _ (List.mem_of_getElem? (i := 296) (by decide +kernel))
theorem tnestF_9 : ((.fieldLinkNest "PianoRounds" 147 "PianoRounds$Text" "numbers" "[I" "PianoRounds") : Cond) ∈ lw_tbl := List.mem_append_right _ (List.mem_of_getElem? (i := 298) (by decide +kernel))
theorem tnestF_10 : ((.fieldLinkNest "PianoRounds" 164 "PianoRounds$Competition" "stage" "LPianoRounds$Stage;" "PianoRounds") : Cond) ∈ lw_tbl := List.mem_append_right _ (List.mem_of_getElem? (i := 231) (by decide +kernel))
theorem tnestF_11 : ((.fieldLinkNest "PianoRounds" 168 "PianoRounds$Stage" "seed" "J" "PianoRounds") : Cond) ∈ lw_tbl := List.mem_append_right _ (List.mem_of_getElem? (i := 122) (by decide +kernel))
theorem tnestF_12 : ((.fieldLinkNest "PianoRounds" 177 "PianoRounds$Stage" "players" "I" "PianoRounds") : Cond) ∈ lw_tbl := List.mem_append_right _ (List.mem_of_getElem? (i := 117) (by decide +kernel))
theorem tnestF_13 : ((.fieldLinkNest "PianoRounds" 180 "PianoRounds$Stage" "played" "I" "PianoRounds") : Cond) ∈ lw_tbl := List.mem_append_right _ (List.mem_of_getElem? (i := 120) (by decide +kernel))
theorem tnestF_14 : ((.fieldLinkNest "PianoRounds" 235 "PianoRounds$Competition" "tie" "LPianoRounds$Tie;" "PianoRounds") : Cond) ∈ lw_tbl := List.mem_append_right _ (List.mem_of_getElem? (i := 235) (by decide +kernel))
theorem tnestF_15 : ((.fieldLinkNest "PianoRounds" 239 "PianoRounds$Tie" "sheet" "LPianoRounds$Sheet;" "PianoRounds") : Cond) ∈ lw_tbl := List.mem_append_right _ (List.mem_of_getElem? (i := 167) (by decide +kernel))
theorem tnestF_16 : ((.fieldLinkNest "PianoRounds" 248 "PianoRounds$Competition" "sheet" "LPianoRounds$Sheet;" "PianoRounds") : Cond) ∈ lw_tbl := List.mem_append_right _ (List.mem_of_getElem? (i := 233) (by decide +kernel))
theorem tnestF_17 : ((.fieldLinkNest "PianoRounds" 249 "PianoRounds$Competition" "closedScores" "[[I" "PianoRounds") : Cond) ∈ lw_tbl := List.mem_append_right _ (List.mem_of_getElem? (i := 237) (by decide +kernel))
theorem tnestF_18 : ((.fieldLinkNest "PianoRounds" 258 "PianoRounds$Competition" "cut" "LPianoRounds$Cut;" "PianoRounds") : Cond) ∈ lw_tbl := List.mem_append_right _ (List.mem_of_getElem? (i := 239) (by decide +kernel))
theorem tnestF_19 : ((.fieldLinkNest "PianoRounds" 271 "PianoRounds$Jury" "size" "I" "PianoRounds") : Cond) ∈ lw_tbl := List.mem_append_right _ (List.mem_of_getElem? (i := 97) (by decide +kernel))
theorem tnestF_20 : ((.fieldLinkNest "PianoRounds" 277 "PianoRounds$Text" "length" "I" "PianoRounds") : Cond) ∈ lw_tbl := List.mem_append_right _ (List.mem_of_getElem? (i := 293) (by decide +kernel))
theorem tnestF_21 : ((.fieldLinkNest "PianoRounds" 282 "PianoRounds$Records" "count" "I" "PianoRounds") : Cond) ∈ lw_tbl := List.mem_append_right _ (List.mem_of_getElem? (i := 279) (by decide +kernel))
theorem tnestF_22 : ((.fieldLinkNest "PianoRounds$Competition" 85 "PianoRounds" "RULE_AT_FIRST" "[I" "PianoRounds") : Cond) ∈ lw_tbl := List.mem_append_right _ (List.mem_of_getElem? (i := 203) (by decide +kernel))
theorem tnestF_23 : ((.fieldLinkNest "PianoRounds$Competition" 128 "PianoRounds$Jury" "size" "I" "PianoRounds") : Cond) ∈ lw_tbl := List.mem_append_right _ (List.mem_of_getElem? (i := 96) (by decide +kernel))
theorem tnestF_24 : ((.fieldLinkNest "PianoRounds$Competition" 131 "PianoRounds$Works" "count" "I" "PianoRounds") : Cond) ∈ lw_tbl := List.mem_append_right _ (List.mem_of_getElem? (i := 44) (by decide +kernel))
theorem tnestF_25 : ((.fieldLinkNest "PianoRounds$Competition" 134 "PianoRounds$Entrants" "count" "I" "PianoRounds") : Cond) ∈ lw_tbl := List.mem_append_right _ (List.mem_of_getElem? (i := 66) (by decide +kernel))
theorem tnestF_26 : ((.fieldLinkNest "PianoRounds$Competition" 139 "PianoRounds$Stage" "players" "I" "PianoRounds") : Cond) ∈ lw_tbl := List.mem_append_right _ (List.mem_of_getElem? (i := 116) (by decide +kernel))
theorem tnestF_27 : ((.fieldLinkNest "PianoRounds$Competition" 142 "PianoRounds$Stage" "played" "I" "PianoRounds") : Cond) ∈ lw_tbl := List.mem_append_right _ (List.mem_of_getElem? (i := 119) (by decide +kernel))
theorem tnestF_28 : ((.fieldLinkNest "PianoRounds$Competition" 147 "PianoRounds$Tie" "places" "I" "PianoRounds") : Cond) ∈ lw_tbl := List.mem_append_right _ (List.mem_of_getElem? (i := 163) (by decide +kernel))
theorem tnestF_29 : ((.fieldLinkNest "PianoRounds$Competition" 150 "PianoRounds$Tie" "number" "I" "PianoRounds") : Cond) ∈ lw_tbl := List.mem_append_right _ (List.mem_of_getElem? (i := 161) (by decide +kernel))
theorem tnestF_30 : ((.fieldLinkNest "PianoRounds$Competition" 176 "PianoRounds$Tie" "sheet" "LPianoRounds$Sheet;" "PianoRounds") : Cond) ∈ lw_tbl := List.mem_append_right _ (List.mem_of_getElem? (i := 166) (by decide +kernel))
theorem tnestF_31 : ((.fieldLinkNest "PianoRounds$Competition" 265 "PianoRounds$Cut" "scores" "[I" "PianoRounds") : Cond) ∈ lw_tbl := List.mem_append_right _ (List.mem_of_getElem? (i := 189) (by decide +kernel))
theorem nestF_in : ∀ w ∈ nestF, w ∈ lw_tbl := List.forall_mem_cons.mpr ⟨tnestF_0, List.forall_mem_cons.mpr ⟨tnestF_1, List.forall_mem_cons.mpr ⟨tnestF_2, List.forall_mem_cons.mpr ⟨tnestF_3, List.forall_mem_cons.mpr ⟨tnestF_4, List.forall_mem_cons.mpr ⟨tnestF_5, List.forall_mem_cons.mpr ⟨tnestF_6, List.forall_mem_cons.mpr ⟨tnestF_7, List.forall_mem_cons.mpr ⟨tnestF_8, List.forall_mem_cons.mpr ⟨tnestF_9, List.forall_mem_cons.mpr ⟨tnestF_10, List.forall_mem_cons.mpr ⟨tnestF_11, List.forall_mem_cons.mpr ⟨tnestF_12, List.forall_mem_cons.mpr ⟨tnestF_13, List.forall_mem_cons.mpr ⟨tnestF_14, List.forall_mem_cons.mpr ⟨tnestF_15, List.forall_mem_cons.mpr ⟨tnestF_16, List.forall_mem_cons.mpr ⟨tnestF_17, List.forall_mem_cons.mpr ⟨tnestF_18, List.forall_mem_cons.mpr ⟨tnestF_19, List.forall_mem_cons.mpr ⟨tnestF_20, List.forall_mem_cons.mpr ⟨tnestF_21, List.forall_mem_cons.mpr ⟨tnestF_22, List.forall_mem_cons.mpr ⟨tnestF_23, List.forall_mem_cons.mpr ⟨tnestF_24, List.forall_mem_cons.mpr ⟨tnestF_25, List.forall_mem_cons.mpr ⟨tnestF_26, List.forall_mem_cons.mpr ⟨tnestF_27, List.forall_mem_cons.mpr ⟨tnestF_28, List.forall_mem_cons.mpr ⟨tnestF_29, List.forall_mem_cons.mpr ⟨tnestF_30, List.forall_mem_cons.mpr ⟨tnestF_31, fun _ h => absurd h List.not_mem_nil⟩⟩⟩⟩⟩⟩⟩⟩⟩⟩⟩⟩⟩⟩⟩⟩⟩⟩⟩⟩⟩⟩⟩⟩⟩⟩⟩⟩⟩⟩⟩⟩
theorem tnestM_0 : ((.methodLinkNest "PianoRounds" 25 ⟨"PianoRounds$Text", "<init>", "()V"⟩ "PianoRounds") : Cond) ∈ lw_tbl := List.mem_append_right _ (List.mem_of_getElem? (i := 288) (by decide +kernel))
theorem tnestM_1 : ((.methodLinkNest "PianoRounds$Competition" 23 ⟨"PianoRounds$Works", "<init>", "()V"⟩ "PianoRounds") : Cond) ∈ lw_tbl := List.mem_append_right _ (List.mem_of_getElem? (i := 38) (by decide +kernel))
theorem tnestM_2 : ((.methodLinkNest "PianoRounds$Competition" 30 ⟨"PianoRounds$Entrants", "<init>", "()V"⟩ "PianoRounds") : Cond) ∈ lw_tbl := List.mem_append_right _ (List.mem_of_getElem? (i := 60) (by decide +kernel))
theorem tnestM_3 : ((.methodLinkNest "PianoRounds$Competition" 49 ⟨"PianoRounds$Jury", "<init>", "()V"⟩ "PianoRounds") : Cond) ∈ lw_tbl := List.mem_append_right _ (List.mem_of_getElem? (i := 90) (by decide +kernel))
theorem tnestM_4 : ((.methodLinkNest "PianoRounds$Competition" 70 ⟨"PianoRounds$Tie", "<init>", "()V"⟩ "PianoRounds") : Cond) ∈ lw_tbl := List.mem_append_right _ (List.mem_of_getElem? (i := 154) (by decide +kernel))
theorem tnestM_5 : ((.methodLinkNest "PianoRounds$Competition" 80 ⟨"PianoRounds$Cut", "<init>", "()V"⟩ "PianoRounds") : Cond) ∈ lw_tbl := List.mem_append_right _ (List.mem_of_getElem? (i := 179) (by decide +kernel))
theorem tnestM_6 : ((.methodLinkNest "PianoRounds$Competition" 89 ⟨"PianoRounds", "copyRow", "([I[I)V"⟩ "PianoRounds") : Cond) ∈ lw_tbl := List.mem_append_right _ (List.mem_of_getElem? (i := 205) (by decide +kernel))
theorem tnestM_7 : ((.methodLinkNest "PianoRounds$Competition" 109 ⟨"PianoRounds", "copyRows", "([[I[[I)V"⟩ "PianoRounds") : Cond) ∈ lw_tbl := List.mem_append_right _ (List.mem_of_getElem? (i := 514) (by decide +kernel))
theorem tnestM_8 : ((.methodLinkNest "PianoRounds$Competition" 255 ⟨"PianoRounds", "isBetween", "(III)Z"⟩ "PianoRounds") : Cond) ∈ lw_tbl := List.mem_append_right _ (List.mem_of_getElem? (i := 908) (by decide +kernel))
theorem tnestM_9 : ((.methodLinkNest "PianoRounds$Cut" 21 ⟨"PianoRounds", "isBetween", "(III)Z"⟩ "PianoRounds") : Cond) ∈ lw_tbl := List.mem_append_right _ (List.mem_of_getElem? (i := 907) (by decide +kernel))
theorem tnestM_10 : ((.methodLinkNest "PianoRounds$Entrants" 26 ⟨"PianoRounds", "copyRow", "([I[I)V"⟩ "PianoRounds") : Cond) ∈ lw_tbl := List.mem_append_right _ (List.mem_of_getElem? (i := 513) (by decide +kernel))
theorem tnestM_11 : ((.methodLinkNest "PianoRounds$Jury" 46 ⟨"PianoRounds", "copyRows", "([[I[[I)V"⟩ "PianoRounds") : Cond) ∈ lw_tbl := List.mem_append_right _ (List.mem_of_getElem? (i := 526) (by decide +kernel))
theorem tnestM_12 : ((.methodLinkNest "PianoRounds$Programs" 67 ⟨"PianoRounds", "copyRow", "([I[I)V"⟩ "PianoRounds") : Cond) ∈ lw_tbl := List.mem_append_right _ (List.mem_of_getElem? (i := 521) (by decide +kernel))
theorem tnestM_13 : ((.methodLinkNest "PianoRounds$Sheet" 25 ⟨"PianoRounds", "copyRows", "([[I[[I)V"⟩ "PianoRounds") : Cond) ∈ lw_tbl := List.mem_append_right _ (List.mem_of_getElem? (i := 536) (by decide +kernel))
theorem tnestM_14 : ((.methodLinkNest "PianoRounds$Stage" 50 ⟨"PianoRounds", "isBetween", "(III)Z"⟩ "PianoRounds") : Cond) ∈ lw_tbl := List.mem_append_right _ (List.mem_of_getElem? (i := 792) (by decide +kernel))
theorem tnestM_15 : ((.methodLinkNest "PianoRounds$Stage" 64 ⟨"PianoRounds", "copyRow", "([I[I)V"⟩ "PianoRounds") : Cond) ∈ lw_tbl := List.mem_append_right _ (List.mem_of_getElem? (i := 531) (by decide +kernel))
theorem tnestM_16 : ((.methodLinkNest "PianoRounds$Text" 36 ⟨"PianoRounds", "isBetween", "(III)Z"⟩ "PianoRounds") : Cond) ∈ lw_tbl := List.mem_append_right _ (List.mem_of_getElem? (i := 379) (by decide +kernel))
theorem tnestM_17 : ((.methodLinkNest "PianoRounds$Tie" 48 ⟨"PianoRounds", "isBetween", "(III)Z"⟩ "PianoRounds") : Cond) ∈ lw_tbl := List.mem_append_right _ (List.mem_of_getElem? (i := 824) (by decide +kernel))
theorem tnestM_18 : ((.methodLinkNest "PianoRounds$Tie" 52 ⟨"PianoRounds", "copyRow", "([I[I)V"⟩ "PianoRounds") : Cond) ∈ lw_tbl := List.mem_append_right _ (List.mem_of_getElem? (i := 541) (by decide +kernel))
theorem tnestM_19 : ((.methodLinkNest "PianoRounds$Works" 39 ⟨"PianoRounds", "copyRow", "([I[I)V"⟩ "PianoRounds") : Cond) ∈ lw_tbl := List.mem_append_right _ (List.mem_of_getElem? (i := 508) (by decide +kernel))
theorem nestM_in : ∀ w ∈ nestM, w ∈ lw_tbl := List.forall_mem_cons.mpr ⟨tnestM_0, List.forall_mem_cons.mpr ⟨tnestM_1, List.forall_mem_cons.mpr ⟨tnestM_2, List.forall_mem_cons.mpr ⟨tnestM_3, List.forall_mem_cons.mpr ⟨tnestM_4, List.forall_mem_cons.mpr ⟨tnestM_5, List.forall_mem_cons.mpr ⟨tnestM_6, List.forall_mem_cons.mpr ⟨tnestM_7, List.forall_mem_cons.mpr ⟨tnestM_8, List.forall_mem_cons.mpr ⟨tnestM_9, List.forall_mem_cons.mpr ⟨tnestM_10, List.forall_mem_cons.mpr ⟨tnestM_11, List.forall_mem_cons.mpr ⟨tnestM_12, List.forall_mem_cons.mpr ⟨tnestM_13, List.forall_mem_cons.mpr ⟨tnestM_14, List.forall_mem_cons.mpr ⟨tnestM_15, List.forall_mem_cons.mpr ⟨tnestM_16, List.forall_mem_cons.mpr ⟨tnestM_17, List.forall_mem_cons.mpr ⟨tnestM_18, List.forall_mem_cons.mpr ⟨tnestM_19, fun _ h => absurd h List.not_mem_nil⟩⟩⟩⟩⟩⟩⟩⟩⟩⟩⟩⟩⟩⟩⟩⟩⟩⟩⟩⟩
theorem tcastL_0 : ((.castable "java/lang/IllegalArgumentException" "java/lang/IllegalArgumentException") : Cond) ∈ lw_tbl := List.mem_append_right _ (List.mem_of_getElem? (i := 413) (by decide +kernel))
theorem tcastL_1 : ((.castable "java/lang/IllegalStateException" "java/lang/IllegalStateException") : Cond) ∈ lw_tbl := List.mem_append_right _ (List.mem_of_getElem? (i := 479) (by decide +kernel))
theorem tcastL_2 : ((.castable "java/lang/IndexOutOfBoundsException" "java/lang/IndexOutOfBoundsException") : Cond) ∈ lw_tbl := List.mem_append_right _ (List.mem_of_getElem? (i := 564) (by decide +kernel))
theorem tcastL_3 : ((.declares ⟨"java/lang/RuntimeException", "<init>", "()V"⟩) : Cond) ∈ lw_tbl := List.mem_append_right _ (List.mem_of_getElem? (i := 414) (by decide +kernel))
theorem tcastL_4 : ((.declares ⟨"java/lang/Exception", "<init>", "()V"⟩) : Cond) ∈ lw_tbl := List.mem_append_right _ (List.mem_of_getElem? (i := 416) (by decide +kernel))
theorem tcastL_5 : ((.declares ⟨"java/lang/Throwable", "<init>", "()V"⟩) : Cond) ∈ lw_tbl := List.mem_append_right _ (List.mem_of_getElem? (i := 418) (by decide +kernel))
theorem castL_in : ∀ w ∈ castL, w ∈ lw_tbl := List.forall_mem_cons.mpr ⟨tcastL_0, List.forall_mem_cons.mpr ⟨tcastL_1, List.forall_mem_cons.mpr ⟨tcastL_2, List.forall_mem_cons.mpr ⟨tcastL_3, List.forall_mem_cons.mpr ⟨tcastL_4, List.forall_mem_cons.mpr ⟨tcastL_5, fun _ h => absurd h List.not_mem_nil⟩⟩⟩⟩⟩⟩
theorem tl_RULE_AT_FIRST : ((.laysStatic "PianoRounds" "RULE_AT_FIRST" "[I") : Cond) ∈ lw_tbl := List.mem_append_right _ (List.mem_of_getElem? (i := 204) (by decide +kernel))
theorem tl_SETTING_LOWEST : ((.laysStatic "PianoRounds" "SETTING_LOWEST" "[I") : Cond) ∈ lw_tbl := List.mem_append_right _ (List.mem_of_getElem? (i := 641) (by decide +kernel))
theorem tl_SETTING_HIGHEST : ((.laysStatic "PianoRounds" "SETTING_HIGHEST" "[I") : Cond) ∈ lw_tbl := List.mem_append_right _ (List.mem_of_getElem? (i := 643) (by decide +kernel))
theorem tl_RULE_LOWEST : ((.laysStatic "PianoRounds" "RULE_LOWEST" "[I") : Cond) ∈ lw_tbl := List.mem_append_right _ (List.mem_of_getElem? (i := 676) (by decide +kernel))
theorem tl_RULE_HIGHEST : ((.laysStatic "PianoRounds" "RULE_HIGHEST" "[I") : Cond) ∈ lw_tbl := List.mem_append_right _ (List.mem_of_getElem? (i := 678) (by decide +kernel))
theorem tl_UN : ((.laysStatic "java/lang/Throwable" "UNASSIGNED_STACK" "[Ljava/lang/StackTraceElement;") : Cond) ∈ lw_tbl := List.mem_append_right _ (List.mem_of_getElem? (i := 438) (by decide +kernel))
theorem tl_SU : ((.laysStatic "java/lang/Throwable" "SUPPRESSED_SENTINEL" "Ljava/util/List;") : Cond) ∈ lw_tbl := List.mem_append_right _ (List.mem_of_getElem? (i := 440) (by decide +kernel))
theorem ti_P : ((.initialized "PianoRounds") : Cond) ∈ lw_tbl := List.mem_append_right _ (List.mem_of_getElem? (i := 1) (by decide +kernel))
theorem ti_T : ((.initialized "java/lang/Throwable") : Cond) ∈ lw_tbl := List.mem_append_right _ (List.mem_of_getElem? (i := 16) (by decide +kernel))
theorem ta_int : ((.arrayClass .int) : Cond) ∈ lw_tbl := List.mem_append_right _ (List.mem_of_getElem? (i := 57) (by decide +kernel))
theorem ta_rows : ((.arrayOver (.array .int)) : Cond) ∈ lw_tbl := List.mem_append_right _ (List.mem_of_getElem? (i := 74) (by decide +kernel))
theorem ta_comps : ((.arrayOver (.object "PianoRounds$Competition")) : Cond) ∈ lw_tbl := List.mem_append_right _ (List.mem_of_getElem? (i := 276) (by decide +kernel))
theorem tc_11 : ((.classLink "PianoRoundsLaw" 10 "PianoRounds") : Cond) ∈ lw_tbl := List.mem_append_right _ (List.mem_of_getElem? (i := 22) (by decide +kernel))
theorem tm_11 : ((.methodLink "PianoRoundsLaw" 163 ⟨"PianoRounds", "<init>", "()V"⟩) : Cond) ∈ lw_tbl := List.mem_append_right _ (List.mem_of_getElem? (i := 24) (by decide +kernel))
theorem to_11 : ((.instanceMethod ⟨"PianoRounds", "<init>", "()V"⟩) : Cond) ∈ lw_tbl := List.mem_append_right _ (List.mem_of_getElem? (i := 25) (by decide +kernel))
theorem tn_0 : ((.instantiable "PianoRounds$Competition" 14) : Cond) ∈ lw_tbl := List.mem_append_right _ (List.mem_of_getElem? (i := 31) (by decide +kernel))
theorem tn_1 : ((.instantiable "PianoRounds$Cut" 6) : Cond) ∈ lw_tbl := List.mem_append_right _ (List.mem_of_getElem? (i := 178) (by decide +kernel))
theorem tn_2 : ((.instantiable "PianoRounds$Entrants" 2) : Cond) ∈ lw_tbl := List.mem_append_right _ (List.mem_of_getElem? (i := 59) (by decide +kernel))
theorem tn_3 : ((.instantiable "PianoRounds$Jury" 2) : Cond) ∈ lw_tbl := List.mem_append_right _ (List.mem_of_getElem? (i := 89) (by decide +kernel))
theorem tn_4 : ((.instantiable "PianoRounds$Programs" 1) : Cond) ∈ lw_tbl := List.mem_append_right _ (List.mem_of_getElem? (i := 76) (by decide +kernel))
theorem tn_5 : ((.instantiable "PianoRounds$Records" 2) : Cond) ∈ lw_tbl := List.mem_append_right _ (List.mem_of_getElem? (i := 270) (by decide +kernel))
theorem tn_6 : ((.instantiable "PianoRounds$Sheet" 1) : Cond) ∈ lw_tbl := List.mem_append_right _ (List.mem_of_getElem? (i := 137) (by decide +kernel))
theorem tn_7 : ((.instantiable "PianoRounds$Stage" 5) : Cond) ∈ lw_tbl := List.mem_append_right _ (List.mem_of_getElem? (i := 105) (by decide +kernel))
theorem tn_8 : ((.instantiable "PianoRounds$Text" 5) : Cond) ∈ lw_tbl := List.mem_append_right _ (List.mem_of_getElem? (i := 287) (by decide +kernel))
theorem tn_9 : ((.instantiable "PianoRounds$Tie" 4) : Cond) ∈ lw_tbl := List.mem_append_right _ (List.mem_of_getElem? (i := 153) (by decide +kernel))
theorem tn_10 : ((.instantiable "PianoRounds$Works" 4) : Cond) ∈ lw_tbl := List.mem_append_right _ (List.mem_of_getElem? (i := 37) (by decide +kernel))
theorem tn_11 : ((.instantiable "PianoRounds" 3) : Cond) ∈ lw_tbl := List.mem_append_right _ (List.mem_of_getElem? (i := 23) (by decide +kernel))
theorem nestF_tab : ∀ w ∈ nestF, w.onTables = true := by decide +kernel
theorem nestM_tab : ∀ w ∈ nestM, w.onTables = true := by decide +kernel
theorem castL_tab : ∀ w ∈ castL, w.onTables = true := by decide +kernel
section LA
variable {s : State} {b : Nat}
theorem k_int (h : (Cond.arrayClass .int).before #[Value.ref b] s = true) : ∃ c : ClassId, ArrOfT s c .int ∧ va_RA s c .int := by
  obtain ⟨c, k, comp, h1, h2, h3⟩ := Cond.arrayClass_spec h
  exact ⟨c, fun n z => ⟨fun k h => (by cases h), k, h2, comp, h3⟩, h1⟩
theorem k_rows (h : (Cond.arrayOver (.array .int)).before #[Value.ref b] s = true) : ∃ c : ClassId, ArrOfT s c (.array .int) ∧ va_RA s c (.array .int) := by
  obtain ⟨comp, c, k, h0, h1, h2, h3, h4⟩ := arrayOverA_spec h
  exact ⟨c, fun n z => ⟨fun k h => (by cases h), k, h2, comp, h3⟩, h4⟩
theorem k_comps (h : (Cond.arrayOver (.object "PianoRounds$Competition")).before #[Value.ref b] s = true) : ∃ c : ClassId, ArrOfT s c (.object "PianoRounds$Competition") ∧ va_RA s c (.object "PianoRounds$Competition") := by
  obtain ⟨comp, c, k, h0, h1, h2, h3, h4⟩ := Cond.arrayOver_spec h
  exact ⟨c, fun n z => ⟨fun k h => (by cases h), k, h2, comp, h3⟩, k, comp, h2, h3, h0, h4⟩
theorem k_K (hts : ∀ w ∈ lw_tbl, w.before #[Value.ref b] s = true) : ∃ (D : va_G) (cy : Nat → ClassId), gK D cy s := by
  obtain ⟨c0, i0, h0⟩ := u_known (C := RX0) (T := TX0) (N := 14) (n := 14) hts inX0 (hts _ tn_0)
  obtain ⟨c1, i1, h1⟩ := u_known (C := RX1) (T := TX1) (N := 6) (n := 6) hts inX1 (hts _ tn_1)
  obtain ⟨c2, i2, h2⟩ := u_known (C := RX2) (T := TX2) (N := 2) (n := 2) hts inX2 (hts _ tn_2)
  obtain ⟨c3, i3, h3⟩ := u_known (C := RX3) (T := TX3) (N := 2) (n := 2) hts inX3 (hts _ tn_3)
  obtain ⟨c4, i4, h4⟩ := u_known (C := RX4) (T := TX4) (N := 1) (n := 1) hts inX4 (hts _ tn_4)
  obtain ⟨c5, i5, h5⟩ := u_known (C := RX5) (T := TX5) (N := 2) (n := 2) hts inX5 (hts _ tn_5)
  obtain ⟨c6, i6, h6⟩ := u_known (C := RX6) (T := TX6) (N := 1) (n := 1) hts inX6 (hts _ tn_6)
  obtain ⟨c7, i7, h7⟩ := u_known (C := RX7) (T := TX7) (N := 5) (n := 5) hts inX7 (hts _ tn_7)
  obtain ⟨c8, i8, h8⟩ := u_known (C := RX8) (T := TX8) (N := 5) (n := 5) hts inX8 (hts _ tn_8)
  obtain ⟨c9, i9, h9⟩ := u_known (C := RX9) (T := TX9) (N := 4) (n := 4) hts inX9 (hts _ tn_9)
  obtain ⟨c10, i10, h10⟩ := u_known (C := RX10) (T := TX10) (N := 4) (n := 4) hts inX10 (hts _ tn_10)
  obtain ⟨c11, i11, h11⟩ := u_known (C := RX11) (T := TX11) (N := 3) (n := 3) hts inX11 (hts _ tn_11)
  obtain ⟨y0, a0, b0⟩ := k_int (hts _ ta_int)
  obtain ⟨y1, a1, b1⟩ := k_comps (hts _ ta_comps)
  obtain ⟨y2, a2, b2⟩ := k_rows (hts _ ta_rows)
  refine ⟨(fun k => if k = 0 then c0 else if k = 1 then c1 else if k = 2 then c2 else if k = 3 then c3 else if k = 4 then c4 else if k = 5 then c5 else if k = 6 then c6 else if k = 7 then c7 else if k = 8 then c8 else if k = 9 then c9 else if k = 10 then c10 else c11, fun k => if k = 0 then i0 else if k = 1 then i1 else if k = 2 then i2 else if k = 3 then i3 else if k = 4 then i4 else if k = 5 then i5 else if k = 6 then i6 else if k = 7 then i7 else if k = 8 then i8 else if k = 9 then i9 else if k = 10 then i10 else i11), fun k => if k = 0 then y0 else if k = 1 then y1 else y2, ⟨fun k q hq => ?_, fun k q hq => ?_⟩, fun w hw => ?_, fun w hw => ?_, fun w hw => ?_⟩
  · match k, hq with
    | 0, hq => cases hq; exact h0
    | 1, hq => cases hq; exact h1
    | 2, hq => cases hq; exact h2
    | 3, hq => cases hq; exact h3
    | 4, hq => cases hq; exact h4
    | 5, hq => cases hq; exact h5
    | 6, hq => cases hq; exact h6
    | 7, hq => cases hq; exact h7
    | 8, hq => cases hq; exact h8
    | 9, hq => cases hq; exact h9
    | 10, hq => cases hq; exact h10
    | 11, hq => cases hq; exact h11
    | k + 12, hq => exact absurd (List.getElem?_eq_some_iff.mp hq).1 (by simp [vwCl])
  · match k, hq with
    | 0, hq => cases hq; exact ⟨a0, b0⟩
    | 1, hq => cases hq; exact ⟨a1, b1⟩
    | 2, hq => cases hq; exact ⟨a2, b2⟩
    | k + 3, hq => exact absurd (List.getElem?_eq_some_iff.mp hq).1 (by simp [TY])
  · exact va_Nw.of (nestF_tab w hw) (hts w (nestF_in w hw))
  · exact va_Nw.of (nestM_tab w hw) (hts w (nestM_in w hw))
  · exact va_Nw.of (castL_tab w hw) (hts w (castL_in w hw))
theorem k_RULE_AT_FIRST (hts : ∀ w ∈ lw_tbl, w.before #[Value.ref b] s = true) (hgv : ∀ w ∈ flatC (Jvm.Cond.and given_1 narrow_1), w.before #[Value.ref b] s = true) : ∃ t : Nat, gT "RULE_AT_FIRST" t 6 tab4 (fun q => s.heap.size ≤ q) s s.heap := by
  have hA : ∀ a : Nat, a < s.heap.size → ¬ (fun q => s.heap.size ≤ q) a := fun a h => Nat.not_le.mpr h
  obtain ⟨t, h1, h2⟩ := va_Tof (tm := (.static "PianoRounds" "RULE_AT_FIRST" "[I")) (ty := .int) (N := 6) (f := fun j => .int (tab4 j)) (by decide) (hgv (.arrayOf (.static "PianoRounds" "RULE_AT_FIRST" "[I") .int) (by decide +kernel)) (va_eqt (hgv (.eq (.length (.static "PianoRounds" "RULE_AT_FIRST" "[I")) (.int 6)) (by decide +kernel))) (fun j hj => by
    match j, hj with
    | 0, _ => exact va_eqt (hgv (.eq (.elem (.static "PianoRounds" "RULE_AT_FIRST" "[I") (.int 0)) (.int 1)) (by decide +kernel))
    | 1, _ => exact va_eqt (hgv (.eq (.elem (.static "PianoRounds" "RULE_AT_FIRST" "[I") (.int 1)) (.int 180)) (by decide +kernel))
    | 2, _ => exact va_eqt (hgv (.eq (.elem (.static "PianoRounds" "RULE_AT_FIRST" "[I") (.int 2)) (.int 0)) (by decide +kernel))
    | 3, _ => exact va_eqt (hgv (.eq (.elem (.static "PianoRounds" "RULE_AT_FIRST" "[I") (.int 3)) (.int 4)) (by decide +kernel))
    | 4, _ => exact va_eqt (hgv (.eq (.elem (.static "PianoRounds" "RULE_AT_FIRST" "[I") (.int 4)) (.int 0)) (by decide +kernel))
    | 5, _ => exact va_eqt (hgv (.eq (.elem (.static "PianoRounds" "RULE_AT_FIRST" "[I") (.int 5)) (.int 12)) (by decide +kernel))
    | j + 6, hj => exact absurd hj (by omega)) hA
  exact ⟨t, va_Zref (hts _ tl_RULE_AT_FIRST) (hts _ ti_P) h1 hA, h2⟩
theorem k_SETTING_LOWEST (hts : ∀ w ∈ lw_tbl, w.before #[Value.ref b] s = true) (hgv : ∀ w ∈ flatC (Jvm.Cond.and given_1 narrow_1), w.before #[Value.ref b] s = true) : ∃ t : Nat, gT "SETTING_LOWEST" t 3 tab0 (fun q => s.heap.size ≤ q) s s.heap := by
  have hA : ∀ a : Nat, a < s.heap.size → ¬ (fun q => s.heap.size ≤ q) a := fun a h => Nat.not_le.mpr h
  obtain ⟨t, h1, h2⟩ := va_Tof (tm := (.static "PianoRounds" "SETTING_LOWEST" "[I")) (ty := .int) (N := 3) (f := fun j => .int (tab0 j)) (by decide) (hgv (.arrayOf (.static "PianoRounds" "SETTING_LOWEST" "[I") .int) (by decide +kernel)) (va_eqt (hgv (.eq (.length (.static "PianoRounds" "SETTING_LOWEST" "[I")) (.int 3)) (by decide +kernel))) (fun j hj => by
    match j, hj with
    | 0, _ => exact va_eqt (hgv (.eq (.elem (.static "PianoRounds" "SETTING_LOWEST" "[I") (.int 0)) (.int 3)) (by decide +kernel))
    | 1, _ => exact va_eqt (hgv (.eq (.elem (.static "PianoRounds" "SETTING_LOWEST" "[I") (.int 1)) (.int 1)) (by decide +kernel))
    | 2, _ => exact va_eqt (hgv (.eq (.elem (.static "PianoRounds" "SETTING_LOWEST" "[I") (.int 2)) (.int 0)) (by decide +kernel))
    | j + 3, hj => exact absurd hj (by omega)) hA
  exact ⟨t, va_Zref (hts _ tl_SETTING_LOWEST) (hts _ ti_P) h1 hA, h2⟩
theorem k_SETTING_HIGHEST (hts : ∀ w ∈ lw_tbl, w.before #[Value.ref b] s = true) (hgv : ∀ w ∈ flatC (Jvm.Cond.and given_1 narrow_1), w.before #[Value.ref b] s = true) : ∃ t : Nat, gT "SETTING_HIGHEST" t 3 tab1 (fun q => s.heap.size ≤ q) s s.heap := by
  have hA : ∀ a : Nat, a < s.heap.size → ¬ (fun q => s.heap.size ≤ q) a := fun a h => Nat.not_le.mpr h
  obtain ⟨t, h1, h2⟩ := va_Tof (tm := (.static "PianoRounds" "SETTING_HIGHEST" "[I")) (ty := .int) (N := 3) (f := fun j => .int (tab1 j)) (by decide) (hgv (.arrayOf (.static "PianoRounds" "SETTING_HIGHEST" "[I") .int) (by decide +kernel)) (va_eqt (hgv (.eq (.length (.static "PianoRounds" "SETTING_HIGHEST" "[I")) (.int 3)) (by decide +kernel))) (fun j hj => by
    match j, hj with
    | 0, _ => exact va_eqt (hgv (.eq (.elem (.static "PianoRounds" "SETTING_HIGHEST" "[I") (.int 0)) (.int 7)) (by decide +kernel))
    | 1, _ => exact va_eqt (hgv (.eq (.elem (.static "PianoRounds" "SETTING_HIGHEST" "[I") (.int 1)) (.int 4)) (by decide +kernel))
    | 2, _ => exact va_eqt (hgv (.eq (.elem (.static "PianoRounds" "SETTING_HIGHEST" "[I") (.int 2)) (.int 100)) (by decide +kernel))
    | j + 3, hj => exact absurd hj (by omega)) hA
  exact ⟨t, va_Zref (hts _ tl_SETTING_HIGHEST) (hts _ ti_P) h1 hA, h2⟩
theorem k_RULE_LOWEST (hts : ∀ w ∈ lw_tbl, w.before #[Value.ref b] s = true) (hgv : ∀ w ∈ flatC (Jvm.Cond.and given_1 narrow_1), w.before #[Value.ref b] s = true) : ∃ t : Nat, gT "RULE_LOWEST" t 6 tab2 (fun q => s.heap.size ≤ q) s s.heap := by
  have hA : ∀ a : Nat, a < s.heap.size → ¬ (fun q => s.heap.size ≤ q) a := fun a h => Nat.not_le.mpr h
  obtain ⟨t, h1, h2⟩ := va_Tof (tm := (.static "PianoRounds" "RULE_LOWEST" "[I")) (ty := .int) (N := 6) (f := fun j => .int (tab2 j)) (by decide) (hgv (.arrayOf (.static "PianoRounds" "RULE_LOWEST" "[I") .int) (by decide +kernel)) (va_eqt (hgv (.eq (.length (.static "PianoRounds" "RULE_LOWEST" "[I")) (.int 6)) (by decide +kernel))) (fun j hj => by
    match j, hj with
    | 0, _ => exact va_eqt (hgv (.eq (.elem (.static "PianoRounds" "RULE_LOWEST" "[I") (.int 0)) (.int 1)) (by decide +kernel))
    | 1, _ => exact va_eqt (hgv (.eq (.elem (.static "PianoRounds" "RULE_LOWEST" "[I") (.int 1)) (.int 1)) (by decide +kernel))
    | 2, _ => exact va_eqt (hgv (.eq (.elem (.static "PianoRounds" "RULE_LOWEST" "[I") (.int 2)) (.int 0)) (by decide +kernel))
    | 3, _ => exact va_eqt (hgv (.eq (.elem (.static "PianoRounds" "RULE_LOWEST" "[I") (.int 3)) (.int 1)) (by decide +kernel))
    | 4, _ => exact va_eqt (hgv (.eq (.elem (.static "PianoRounds" "RULE_LOWEST" "[I") (.int 4)) (.int 0)) (by decide +kernel))
    | 5, _ => exact va_eqt (hgv (.eq (.elem (.static "PianoRounds" "RULE_LOWEST" "[I") (.int 5)) (.int 1)) (by decide +kernel))
    | j + 6, hj => exact absurd hj (by omega)) hA
  exact ⟨t, va_Zref (hts _ tl_RULE_LOWEST) (hts _ ti_P) h1 hA, h2⟩
theorem k_RULE_HIGHEST (hts : ∀ w ∈ lw_tbl, w.before #[Value.ref b] s = true) (hgv : ∀ w ∈ flatC (Jvm.Cond.and given_1 narrow_1), w.before #[Value.ref b] s = true) : ∃ t : Nat, gT "RULE_HIGHEST" t 6 tab3 (fun q => s.heap.size ≤ q) s s.heap := by
  have hA : ∀ a : Nat, a < s.heap.size → ¬ (fun q => s.heap.size ≤ q) a := fun a h => Nat.not_le.mpr h
  obtain ⟨t, h1, h2⟩ := va_Tof (tm := (.static "PianoRounds" "RULE_HIGHEST" "[I")) (ty := .int) (N := 6) (f := fun j => .int (tab3 j)) (by decide) (hgv (.arrayOf (.static "PianoRounds" "RULE_HIGHEST" "[I") .int) (by decide +kernel)) (va_eqt (hgv (.eq (.length (.static "PianoRounds" "RULE_HIGHEST" "[I")) (.int 6)) (by decide +kernel))) (fun j hj => by
    match j, hj with
    | 0, _ => exact va_eqt (hgv (.eq (.elem (.static "PianoRounds" "RULE_HIGHEST" "[I") (.int 0)) (.int 180)) (by decide +kernel))
    | 1, _ => exact va_eqt (hgv (.eq (.elem (.static "PianoRounds" "RULE_HIGHEST" "[I") (.int 1)) (.int 180)) (by decide +kernel))
    | 2, _ => exact va_eqt (hgv (.eq (.elem (.static "PianoRounds" "RULE_HIGHEST" "[I") (.int 2)) (.int 31)) (by decide +kernel))
    | 3, _ => exact va_eqt (hgv (.eq (.elem (.static "PianoRounds" "RULE_HIGHEST" "[I") (.int 3)) (.int 4)) (by decide +kernel))
    | 4, _ => exact va_eqt (hgv (.eq (.elem (.static "PianoRounds" "RULE_HIGHEST" "[I") (.int 4)) (.int 1)) (by decide +kernel))
    | 5, _ => exact va_eqt (hgv (.eq (.elem (.static "PianoRounds" "RULE_HIGHEST" "[I") (.int 5)) (.int 12)) (by decide +kernel))
    | j + 6, hj => exact absurd hj (by omega)) hA
  exact ⟨t, va_Zref (hts _ tl_RULE_HIGHEST) (hts _ ti_P) h1 hA, h2⟩
theorem k_gX (hts : ∀ w ∈ lw_tbl, w.before #[Value.ref b] s = true) (hgv : ∀ w ∈ flatC (Jvm.Cond.and given_1 narrow_1), w.before #[Value.ref b] s = true) : ∃ tt : Nat → Nat, gX tt (fun q => s.heap.size ≤ q) s s.heap := by
  have hA : ∀ a : Nat, a < s.heap.size → ¬ (fun q => s.heap.size ≤ q) a := fun a h => Nat.not_le.mpr h
  obtain ⟨t0, h0⟩ := k_SETTING_LOWEST hts hgv
  obtain ⟨t1, h1⟩ := k_SETTING_HIGHEST hts hgv
  obtain ⟨t2, h2⟩ := k_RULE_LOWEST hts hgv
  obtain ⟨t3, h3⟩ := k_RULE_HIGHEST hts hgv
  obtain ⟨t4, h4⟩ := k_RULE_AT_FIRST hts hgv
  exact ⟨fun k => if k = 0 then t0 else if k = 1 then t1 else if k = 2 then t2 else if k = 3 then t3 else t4, vx_Zqof (hts _ tl_UN) (hts _ ti_T) (hgv (.isRef (.static "java/lang/Throwable" "UNASSIGNED_STACK" "[Ljava/lang/StackTraceElement;")) (by decide +kernel)) hA, vx_Zqof (hts _ tl_SU) (hts _ ti_T) (hgv (.isRef (.static "java/lang/Throwable" "SUPPRESSED_SENTINEL" "Ljava/util/List;")) (by decide +kernel)) hA, h0, h1, h2, h3, h4⟩
theorem k_gN (hgv : ∀ w ∈ flatC (Jvm.Cond.and given_1 narrow_1), w.before #[Value.ref b] s = true) : gN s :=
  ⟨va_Nc.of (hgv (.not (.castable "java/lang/IllegalArgumentException" "java/lang/IndexOutOfBoundsException")) (by decide +kernel)), va_Nc.of (hgv (.not (.castable "java/lang/IllegalStateException" "java/lang/IndexOutOfBoundsException")) (by decide +kernel)), va_Nc.of (hgv (.not (.castable "java/lang/IllegalStateException" "java/lang/IllegalArgumentException")) (by decide +kernel))⟩
theorem k_gO (hts : ∀ w ∈ lw_tbl, w.before #[Value.ref b] s = true) : gO s := ⟨hts _ ta_rows, hts _ ta_comps⟩
end LA
