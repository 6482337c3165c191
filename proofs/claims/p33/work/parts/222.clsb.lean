set_option maxHeartbeats 4000000 in
set_option maxRecDepth 100000 in
theorem qX0_tell (l : Launch) (D : va_G) (cy : Nat → ClassId) (a : Nat → Nat) (o : Nat) (S : SX0) (p1 : Int32) (rs : Int32) (h : DX0_tell S p1 = some rs) : Met l yX0_tell wsX0_tell ({ frames := 3, cells := 0, slots := 0, locals := 64 } : Room) (va_Pc [.ref (a o), .int p1] (fun U => va_P D vwCl (wX0 cy a o S) U.heap ∧ gK D cy U)) (vp_Si (fun z => z = rs)) 0 0 (fun _ => False) := by
  refine Met.ofW (cc := cX0_tell) (maxL := 2) (ret := (some .int)) (by decide) rfl ?_
  intro p e s m args below meth c s₁ B hml hv
  obtain ⟨rfl, hP, hG⟩ := hv
  have hx := B.exec
  have hb := B.bytes
  have hr := B.returns
  have hts := atoms_spec (ws := wsX0_tell) B.pre
  have hown : s.vm.findClass RX0 = some m.cls := findClass_of_methodNamed B.named
  have hlocks := B.notSynchronized
  have hK := hG.1
  have hinX0 := (by decide +kernel : ∀ w ∈ wsX00, w ∈ wsX0_tell)
  have hf50 := hts (.fieldLink RX0 50 "PianoRounds$Competition" "jury" "LPianoRounds$Jury;") (by decide +kernel)
  have hinX3 := (by decide +kernel : ∀ w ∈ wsX30, w ∈ wsX0_tell)
  have hf128 := va_Nw.use (A := ([.ref (a o), .int p1] : List Value).toArray) (U := s) (w := .fieldLinkNest "PianoRounds$Competition" 128 "PianoRounds$Jury" "size" "I" "PianoRounds") rfl (hG.2.1 _ (by decide +kernel))
  have hf15 := hts (.fieldLink RX0 15 "PianoRounds$Competition" "rounds" "I") (by decide +kernel)
  have hf18 := hts (.fieldLink RX0 18 "PianoRounds$Competition" "penalty" "I") (by decide +kernel)
  have hf9 := hts (.fieldLink RX0 9 "PianoRounds$Competition" "state" "I") (by decide +kernel)
  have hf99 := hts (.fieldLink RX0 99 "PianoRounds$Competition" "round" "I") (by decide +kernel)
  have hf24 := hts (.fieldLink RX0 24 "PianoRounds$Competition" "works" "LPianoRounds$Works;") (by decide +kernel)
  have hinX10 := (by decide +kernel : ∀ w ∈ wsX100, w ∈ wsX0_tell)
  have hf131 := va_Nw.use (A := ([.ref (a o), .int p1] : List Value).toArray) (U := s) (w := .fieldLinkNest "PianoRounds$Competition" 131 "PianoRounds$Works" "count" "I" "PianoRounds") rfl (hG.2.1 _ (by decide +kernel))
  have hf31 := hts (.fieldLink RX0 31 "PianoRounds$Competition" "entrants" "LPianoRounds$Entrants;") (by decide +kernel)
  have hinX2 := (by decide +kernel : ∀ w ∈ wsX20, w ∈ wsX0_tell)
  have hf134 := va_Nw.use (A := ([.ref (a o), .int p1] : List Value).toArray) (U := s) (w := .fieldLinkNest "PianoRounds$Competition" 134 "PianoRounds$Entrants" "count" "I" "PianoRounds") rfl (hG.2.1 _ (by decide +kernel))
  have hf57 := hts (.fieldLink RX0 57 "PianoRounds$Competition" "stage" "LPianoRounds$Stage;") (by decide +kernel)
  have hinX7 := (by decide +kernel : ∀ w ∈ wsX70, w ∈ wsX0_tell)
  have hf139 := va_Nw.use (A := ([.ref (a o), .int p1] : List Value).toArray) (U := s) (w := .fieldLinkNest "PianoRounds$Competition" 139 "PianoRounds$Stage" "players" "I" "PianoRounds") rfl (hG.2.1 _ (by decide +kernel))
  have hf142 := va_Nw.use (A := ([.ref (a o), .int p1] : List Value).toArray) (U := s) (w := .fieldLinkNest "PianoRounds$Competition" 142 "PianoRounds$Stage" "played" "I" "PianoRounds") rfl (hG.2.1 _ (by decide +kernel))
  have hf71 := hts (.fieldLink RX0 71 "PianoRounds$Competition" "tie" "LPianoRounds$Tie;") (by decide +kernel)
  have hinX9 := (by decide +kernel : ∀ w ∈ wsX90, w ∈ wsX0_tell)
  have hf147 := va_Nw.use (A := ([.ref (a o), .int p1] : List Value).toArray) (U := s) (w := .fieldLinkNest "PianoRounds$Competition" 147 "PianoRounds$Tie" "places" "I" "PianoRounds") rfl (hG.2.1 _ (by decide +kernel))
  have hf150 := va_Nw.use (A := ([.ref (a o), .int p1] : List Value).toArray) (U := s) (w := .fieldLinkNest "PianoRounds$Competition" 150 "PianoRounds$Tie" "number" "I" "PianoRounds") rfl (hG.2.1 _ (by decide +kernel))
  have hl := lv_entry ([.ref (a o), .int p1]) (n := 2) (Nat.le_of_ble_eq_true rfl)
  rw [lg_entry_eq]
  generalize (lg_sl ([.ref (a o), .int p1]) ++ List.replicate (2 - (lg_sl ([.ref (a o), .int p1])).length) Slot.unset).toArray = ls at hl ⊢
  have hl : lv_has ls 2 [(0, .ref (a o)), (1, .int p1)] := hl
  rw [DX0_tell] at h
  refine lv_iload_n hx hb dX0_tell_0 rfl (lv_at hl 1 rfl) ?_
  by_cases c0 : p1 = (0 : Int32)
  · have h := ite_p c0 h
    refine lv_tableIn (tgt := 64) (off := 63) hx hb dX0_tell_1 (by rw [c0]; decide) (by rw [c0]; decide) (by rw [c0]; rfl) (by decide) ?_
    refine lv_aload_n hx hb dX0_tell_64 rfl (lv_at hl 0 rfl) ?_
    refine va_get (D := D) (ci := 0) (v := .ref (a (o + 14))) (C := RX0) (T := TX0) (N := 14) hx hb hts hinX0 hown hK hP 0 rfl rfl 8 (by decide) hf50 (fun _ h9 => h9) rfl dX0_tell_65 ?_
    refine va_getN (D := D) (ci := 3) (v := .int (gX3_size (gX0_jury S))) (C := RX3) (T := TX3) (N := 2) hx hb hts hinX3 hown hK hP 14 rfl rfl 0 (by decide) hf128 (fun _ h9 => h9) rfl dX0_tell_68 ?_
    exact W.iret (v := (gX3_size (gX0_jury S))) hx hb hr (fun t ht hW => ⟨(gX3_size (gX0_jury S)), rfl, some_in h, ht⟩) (fun q hq => nomatch hq) dX0_tell_71
  have h := ite_n c0 h
  by_cases c1 : p1 = (1 : Int32)
  · have h := ite_p c1 h
    refine lv_tableIn (tgt := 72) (off := 71) hx hb dX0_tell_1 (by rw [c1]; decide) (by rw [c1]; decide) (by rw [c1]; rfl) (by decide) ?_
    refine lv_aload_n hx hb dX0_tell_72 rfl (lv_at hl 0 rfl) ?_
    refine va_get (D := D) (ci := 0) (v := .int (gX0_rounds S)) (C := RX0) (T := TX0) (N := 14) hx hb hts hinX0 hown hK hP 0 rfl rfl 2 (by decide) hf15 (fun _ h9 => h9) rfl dX0_tell_73 ?_
    exact W.iret (v := (gX0_rounds S)) hx hb hr (fun t ht hW => ⟨(gX0_rounds S), rfl, some_in h, ht⟩) (fun q hq => nomatch hq) dX0_tell_76
  have h := ite_n c1 h
  by_cases c2 : p1 = (2 : Int32)
  · have h := ite_p c2 h
    refine lv_tableIn (tgt := 77) (off := 76) hx hb dX0_tell_1 (by rw [c2]; decide) (by rw [c2]; decide) (by rw [c2]; rfl) (by decide) ?_
    refine lv_aload_n hx hb dX0_tell_77 rfl (lv_at hl 0 rfl) ?_
    refine va_get (D := D) (ci := 0) (v := .int (gX0_penalty S)) (C := RX0) (T := TX0) (N := 14) hx hb hts hinX0 hown hK hP 0 rfl rfl 3 (by decide) hf18 (fun _ h9 => h9) rfl dX0_tell_78 ?_
    exact W.iret (v := (gX0_penalty S)) hx hb hr (fun t ht hW => ⟨(gX0_penalty S), rfl, some_in h, ht⟩) (fun q hq => nomatch hq) dX0_tell_81
  have h := ite_n c2 h
  by_cases c3 : p1 = (3 : Int32)
  · have h := ite_p c3 h
    refine lv_tableIn (tgt := 82) (off := 81) hx hb dX0_tell_1 (by rw [c3]; decide) (by rw [c3]; decide) (by rw [c3]; rfl) (by decide) ?_
    refine lv_aload_n hx hb dX0_tell_82 rfl (lv_at hl 0 rfl) ?_
    refine va_get (D := D) (ci := 0) (v := .int (gX0_state S)) (C := RX0) (T := TX0) (N := 14) hx hb hts hinX0 hown hK hP 0 rfl rfl 0 (by decide) hf9 (fun _ h9 => h9) rfl dX0_tell_83 ?_
    exact W.iret (v := (gX0_state S)) hx hb hr (fun t ht hW => ⟨(gX0_state S), rfl, some_in h, ht⟩) (fun q hq => nomatch hq) dX0_tell_86
  have h := ite_n c3 h
  by_cases c4 : p1 = (4 : Int32)
  · have h := ite_p c4 h
    refine lv_tableIn (tgt := 87) (off := 86) hx hb dX0_tell_1 (by rw [c4]; decide) (by rw [c4]; decide) (by rw [c4]; rfl) (by decide) ?_
    refine lv_aload_n hx hb dX0_tell_87 rfl (lv_at hl 0 rfl) ?_
    refine va_get (D := D) (ci := 0) (v := .int (gX0_round S)) (C := RX0) (T := TX0) (N := 14) hx hb hts hinX0 hown hK hP 0 rfl rfl 1 (by decide) hf99 (fun _ h9 => h9) rfl dX0_tell_88 ?_
    exact W.iret (v := (gX0_round S)) hx hb hr (fun t ht hW => ⟨(gX0_round S), rfl, some_in h, ht⟩) (fun q hq => nomatch hq) dX0_tell_91
  have h := ite_n c4 h
  by_cases c5 : p1 = (5 : Int32)
  · have h := ite_p c5 h
    refine lv_tableIn (tgt := 92) (off := 91) hx hb dX0_tell_1 (by rw [c5]; decide) (by rw [c5]; decide) (by rw [c5]; rfl) (by decide) ?_
    refine lv_aload_n hx hb dX0_tell_92 rfl (lv_at hl 0 rfl) ?_
    refine va_get (D := D) (ci := 0) (v := .ref (a (o + 1))) (C := RX0) (T := TX0) (N := 14) hx hb hts hinX0 hown hK hP 0 rfl rfl 4 (by decide) hf24 (fun _ h9 => h9) rfl dX0_tell_93 ?_
    refine va_getN (D := D) (ci := 10) (v := .int (gX10_count (gX0_works S))) (C := RX10) (T := TX10) (N := 4) hx hb hts hinX10 hown hK hP 1 rfl rfl 0 (by decide) hf131 (fun _ h9 => h9) rfl dX0_tell_96 ?_
    exact W.iret (v := (gX10_count (gX0_works S))) hx hb hr (fun t ht hW => ⟨(gX10_count (gX0_works S)), rfl, some_in h, ht⟩) (fun q hq => nomatch hq) dX0_tell_99
  have h := ite_n c5 h
  by_cases c6 : p1 = (6 : Int32)
  · have h := ite_p c6 h
    refine lv_tableIn (tgt := 100) (off := 99) hx hb dX0_tell_1 (by rw [c6]; decide) (by rw [c6]; decide) (by rw [c6]; rfl) (by decide) ?_
    refine lv_aload_n hx hb dX0_tell_100 rfl (lv_at hl 0 rfl) ?_
    refine va_get (D := D) (ci := 0) (v := .ref (a (o + 5))) (C := RX0) (T := TX0) (N := 14) hx hb hts hinX0 hown hK hP 0 rfl rfl 5 (by decide) hf31 (fun _ h9 => h9) rfl dX0_tell_101 ?_
    refine va_getN (D := D) (ci := 2) (v := .int (gX2_count (gX0_entrants S))) (C := RX2) (T := TX2) (N := 2) hx hb hts hinX2 hown hK hP 5 rfl rfl 0 (by decide) hf134 (fun _ h9 => h9) rfl dX0_tell_104 ?_
    exact W.iret (v := (gX2_count (gX0_entrants S))) hx hb hr (fun t ht hW => ⟨(gX2_count (gX0_entrants S)), rfl, some_in h, ht⟩) (fun q hq => nomatch hq) dX0_tell_107
  have h := ite_n c6 h
  by_cases c7 : p1 = (7 : Int32)
  · have h := ite_p c7 h
    refine lv_tableIn (tgt := 108) (off := 107) hx hb dX0_tell_1 (by rw [c7]; decide) (by rw [c7]; decide) (by rw [c7]; rfl) (by decide) ?_
    refine lv_aload_n hx hb dX0_tell_108 rfl (lv_at hl 0 rfl) ?_
    refine va_get (D := D) (ci := 0) (v := .ref (a (o + 5))) (C := RX0) (T := TX0) (N := 14) hx hb hts hinX0 hown hK hP 0 rfl rfl 5 (by decide) hf31 (fun _ h9 => h9) rfl dX0_tell_109 ?_
    obtain ⟨x1, e2, h⟩ := bd_some h
    refine pcV (As := []) (rest := []) (q0 := 0) (qX2_countIn l D cy a (o + 5) (gX0_entrants S)  x1 e2) ⟨hx, hb, hml, hown, hts⟩ (cwV 0 hts gX0_tell_X2_countIn rfl rfl rfl (by decide +kernel) ⟨Nat.le_of_ble_eq_true rfl, Nat.le_of_ble_eq_true rfl⟩) hG (P_seg (X := ((hX0 a o S) ++ (wX10 cy a (o + 1) (gX0_works S)))) (c := (wX2 cy a (o + 5) (gX0_entrants S))) (Y := ((rowsW (cy 2) (cy 0) a (o + 7) 4 6 (gX0_rules S)) ++ ((wX4 cy a (o + 12) (gX0_programs S)) ++ ((wX3 cy a (o + 14) (gX0_jury S)) ++ ((wX7 cy a (o + 23) (gX0_stage S)) ++ ((wX6 cy a (o + 26) (gX0_sheet S)) ++ ((wX9 cy a (o + 35) (gX0_tie S)) ++ ((rowsW (cy 2) (cy 0) a (o + 46) 4 12 (gX0_closedScores S)) ++ (wX1 cy a (o + 51) (gX0_cut S)))))))))) hP (by simp only [wX0, List.append_assoc, List.nil_append, List.append_nil] <;> rfl)) rfl rfl rfl hl.1 rfl (Nat.le_of_ble_eq_true rfl) dX0_tell_112 ⟨Nat.zero_le _, Nat.zero_le _⟩ ?_
    exact W.iret (v := x1) hx hb hr (fun t ht hW => ⟨x1, rfl, some_in h, ht⟩) (fun q hq => nomatch hq) dX0_tell_115
  have h := ite_n c7 h
  by_cases c8 : p1 = (8 : Int32)
  · have h := ite_p c8 h
    refine lv_tableIn (tgt := 116) (off := 115) hx hb dX0_tell_1 (by rw [c8]; decide) (by rw [c8]; decide) (by rw [c8]; rfl) (by decide) ?_
    refine lv_aload_n hx hb dX0_tell_116 rfl (lv_at hl 0 rfl) ?_
    refine va_get (D := D) (ci := 0) (v := .ref (a (o + 23))) (C := RX0) (T := TX0) (N := 14) hx hb hts hinX0 hown hK hP 0 rfl rfl 9 (by decide) hf57 (fun _ h9 => h9) rfl dX0_tell_117 ?_
    refine va_getN (D := D) (ci := 7) (v := .int (gX7_players (gX0_stage S))) (C := RX7) (T := TX7) (N := 5) hx hb hts hinX7 hown hK hP 23 rfl rfl 0 (by decide) hf139 (fun _ h9 => h9) rfl dX0_tell_120 ?_
    exact W.iret (v := (gX7_players (gX0_stage S))) hx hb hr (fun t ht hW => ⟨(gX7_players (gX0_stage S)), rfl, some_in h, ht⟩) (fun q hq => nomatch hq) dX0_tell_123
  have h := ite_n c8 h
  by_cases c9 : p1 = (9 : Int32)
  · have h := ite_p c9 h
    refine lv_tableIn (tgt := 124) (off := 123) hx hb dX0_tell_1 (by rw [c9]; decide) (by rw [c9]; decide) (by rw [c9]; rfl) (by decide) ?_
    refine lv_aload_n hx hb dX0_tell_124 rfl (lv_at hl 0 rfl) ?_
    refine va_get (D := D) (ci := 0) (v := .ref (a (o + 23))) (C := RX0) (T := TX0) (N := 14) hx hb hts hinX0 hown hK hP 0 rfl rfl 9 (by decide) hf57 (fun _ h9 => h9) rfl dX0_tell_125 ?_
    refine va_getN (D := D) (ci := 7) (v := .int (gX7_played (gX0_stage S))) (C := RX7) (T := TX7) (N := 5) hx hb hts hinX7 hown hK hP 23 rfl rfl 1 (by decide) hf142 (fun _ h9 => h9) rfl dX0_tell_128 ?_
    exact W.iret (v := (gX7_played (gX0_stage S))) hx hb hr (fun t ht hW => ⟨(gX7_played (gX0_stage S)), rfl, some_in h, ht⟩) (fun q hq => nomatch hq) dX0_tell_131
  have h := ite_n c9 h
  by_cases c10 : p1 = (10 : Int32)
  · have h := ite_p c10 h
    refine lv_tableIn (tgt := 132) (off := 131) hx hb dX0_tell_1 (by rw [c10]; decide) (by rw [c10]; decide) (by rw [c10]; rfl) (by decide) ?_
    refine lv_aload_n hx hb dX0_tell_132 rfl (lv_at hl 0 rfl) ?_
    refine va_get (D := D) (ci := 0) (v := .ref (a (o + 35))) (C := RX0) (T := TX0) (N := 14) hx hb hts hinX0 hown hK hP 0 rfl rfl 11 (by decide) hf71 (fun _ h9 => h9) rfl dX0_tell_133 ?_
    obtain ⟨x3, e4, h⟩ := bd_some h
    refine pcV (As := []) (rest := []) (q0 := 0) (qX9_count l D cy a (o + 35) (gX0_tie S)  x3 e4) ⟨hx, hb, hml, hown, hts⟩ (cwV 0 hts gX0_tell_X9_count rfl rfl rfl (by decide +kernel) ⟨Nat.le_of_ble_eq_true rfl, Nat.le_of_ble_eq_true rfl⟩) hG (P_seg (X := ((hX0 a o S) ++ ((wX10 cy a (o + 1) (gX0_works S)) ++ ((wX2 cy a (o + 5) (gX0_entrants S)) ++ ((rowsW (cy 2) (cy 0) a (o + 7) 4 6 (gX0_rules S)) ++ ((wX4 cy a (o + 12) (gX0_programs S)) ++ ((wX3 cy a (o + 14) (gX0_jury S)) ++ ((wX7 cy a (o + 23) (gX0_stage S)) ++ (wX6 cy a (o + 26) (gX0_sheet S)))))))))) (c := (wX9 cy a (o + 35) (gX0_tie S))) (Y := ((rowsW (cy 2) (cy 0) a (o + 46) 4 12 (gX0_closedScores S)) ++ (wX1 cy a (o + 51) (gX0_cut S)))) hP (by simp only [wX0, List.append_assoc, List.nil_append, List.append_nil] <;> rfl)) rfl rfl rfl hl.1 rfl (Nat.le_of_ble_eq_true rfl) dX0_tell_136 ⟨Nat.zero_le _, Nat.zero_le _⟩ ?_
    exact W.iret (v := x3) hx hb hr (fun t ht hW => ⟨x3, rfl, some_in h, ht⟩) (fun q hq => nomatch hq) dX0_tell_139
  have h := ite_n c10 h
  by_cases c11 : p1 = (11 : Int32)
  · have h := ite_p c11 h
    refine lv_tableIn (tgt := 140) (off := 139) hx hb dX0_tell_1 (by rw [c11]; decide) (by rw [c11]; decide) (by rw [c11]; rfl) (by decide) ?_
    refine lv_aload_n hx hb dX0_tell_140 rfl (lv_at hl 0 rfl) ?_
    refine va_get (D := D) (ci := 0) (v := .ref (a (o + 35))) (C := RX0) (T := TX0) (N := 14) hx hb hts hinX0 hown hK hP 0 rfl rfl 11 (by decide) hf71 (fun _ h9 => h9) rfl dX0_tell_141 ?_
    refine va_getN (D := D) (ci := 9) (v := .int (gX9_places (gX0_tie S))) (C := RX9) (T := TX9) (N := 4) hx hb hts hinX9 hown hK hP 35 rfl rfl 1 (by decide) hf147 (fun _ h9 => h9) rfl dX0_tell_144 ?_
    exact W.iret (v := (gX9_places (gX0_tie S))) hx hb hr (fun t ht hW => ⟨(gX9_places (gX0_tie S)), rfl, some_in h, ht⟩) (fun q hq => nomatch hq) dX0_tell_147
  have h := ite_n c11 h
  refine lv_tableOut (tgt := 148) hx hb dX0_tell_1 (by have n0 := lv_neT (a := 0) c0 (by decide); have n1 := lv_neT (a := 1) c1 (by decide); have n2 := lv_neT (a := 2) c2 (by decide); have n3 := lv_neT (a := 3) c3 (by decide); have n4 := lv_neT (a := 4) c4 (by decide); have n5 := lv_neT (a := 5) c5 (by decide); have n6 := lv_neT (a := 6) c6 (by decide); have n7 := lv_neT (a := 7) c7 (by decide); have n8 := lv_neT (a := 8) c8 (by decide); have n9 := lv_neT (a := 9) c9 (by decide); have n10 := lv_neT (a := 10) c10 (by decide); have n11 := lv_neT (a := 11) c11 (by decide); omega) (by decide) ?_
  refine lv_aload_n hx hb dX0_tell_148 rfl (lv_at hl 0 rfl) ?_
  refine va_get (D := D) (ci := 0) (v := .ref (a (o + 35))) (C := RX0) (T := TX0) (N := 14) hx hb hts hinX0 hown hK hP 0 rfl rfl 11 (by decide) hf71 (fun _ h9 => h9) rfl dX0_tell_149 ?_
  refine va_getN (D := D) (ci := 9) (v := .int (gX9_number (gX0_tie S))) (C := RX9) (T := TX9) (N := 4) hx hb hts hinX9 hown hK hP 35 rfl rfl 0 (by decide) hf150 (fun _ h9 => h9) rfl dX0_tell_152 ?_
  exact W.iret (v := (gX9_number (gX0_tie S))) hx hb hr (fun t ht hW => ⟨(gX9_number (gX0_tie S)), rfl, some_in h, ht⟩) (fun q hq => nomatch hq) dX0_tell_155
set_option maxHeartbeats 4000000 in
set_option maxRecDepth 100000 in
theorem qX7_playerAt (l : Launch) (D : va_G) (cy : Nat → ClassId) (a : Nat → Nat) (o : Nat) (S : SX7) (p1 : Int32) (rs : Int32) (h : DX7_playerAt S p1 = some rs) : Met l yX7_playerAt wsX7_playerAt ({ frames := 0, cells := 0, slots := 0, locals := 0 } : Room) (va_Pc [.ref (a o), .int p1] (fun U => va_P D vwCl (wX7 cy a o S) U.heap ∧ gK D cy U)) (vp_Si (fun z => z = rs)) 0 0 (fun _ => False) := by
  refine Met.ofW (cc := cX7_playerAt) (maxL := 2) (ret := (some .int)) (by decide) rfl ?_
  intro p e s m args below meth c s₁ B hml hv
  obtain ⟨rfl, hP, hG⟩ := hv
  have hx := B.exec
  have hb := B.bytes
  have hr := B.returns
  have hts := atoms_spec (ws := wsX7_playerAt) B.pre
  have hown : s.vm.findClass RX7 = some m.cls := findClass_of_methodNamed B.named
  have hlocks := B.notSynchronized
  have hK := hG.1
  have hinX7 := (by decide +kernel : ∀ w ∈ wsX70, w ∈ wsX7_playerAt)
  have hf21 := hts (.fieldLink RX7 21 "PianoRounds$Stage" "players" "I") (by decide +kernel)
  have hf9 := hts (.fieldLink RX7 9 "PianoRounds$Stage" "order" "[I") (by decide +kernel)
  have hl := lv_entry ([.ref (a o), .int p1]) (n := 2) (Nat.le_of_ble_eq_true rfl)
  rw [lg_entry_eq]
  generalize (lg_sl ([.ref (a o), .int p1]) ++ List.replicate (2 - (lg_sl ([.ref (a o), .int p1])).length) Slot.unset).toArray = ls at hl ⊢
  have hl : lv_has ls 2 [(0, .ref (a o)), (1, .int p1)] := hl
  rw [DX7_playerAt] at h
  refine lv_iload_n hx hb dX7_playerAt_0 rfl (lv_at hl 1 rfl) ?_
  obtain ⟨j2, hj2, h⟩ := jn_elim h
  have Jj2 : ∀ (x1 : Int32) (ls : Array Slot), j2 x1 = some rs → lv_has ls 2 [] → W p l e (headSpec wsX7_playerAt ({ frames := 0, cells := 0, slots := 0, locals := 0 } : Room)).room s m ([.ref (a o), .int p1] : List Value).toArray below meth c s.heap [] 0 0 (MQ below (vp_Si (fun z => z = rs)) ([.ref (a o), .int p1] : List Value).toArray s 0 0 (fun _ => False)) (F0 m 28 ls [.int x1]) := by
    intro x1 ls h hl
    rw [hj2] at h
    exact W.iret (v := x1) hx hb hr (fun t ht hW => ⟨x1, rfl, some_in h, ht⟩) (fun q hq => nomatch hq) dX7_playerAt_28
  obtain ⟨j3, hj3, h⟩ := jn_elim h
  have Jj3 : ∀ (ls : Array Slot), j3 () = some rs → lv_has ls 2 [] → W p l e (headSpec wsX7_playerAt ({ frames := 0, cells := 0, slots := 0, locals := 0 } : Room)).room s m ([.ref (a o), .int p1] : List Value).toArray below meth c s.heap [] 0 0 (MQ below (vp_Si (fun z => z = rs)) ([.ref (a o), .int p1] : List Value).toArray s 0 0 (fun _ => False)) (F0 m 27 ls []) := by
    intro ls h hl
    rw [hj3] at h
    refine lv_iconst (v := (-1 : Int32)) hx hb dX7_playerAt_27 (by decide) ?_
    exact Jj2 (-1 : Int32) ls h (lv_sub hl [] rfl)
  refine lv_if_lt (tgt := 27) hx hb dX7_playerAt_1 (by decide) (fun cc => ?_) (fun cc => ?_)
  · have h := ite_p cc h
    exact Jj3  ls h (lv_sub hl [] rfl)
  · have h := ite_n cc h
    refine lv_iload_n hx hb dX7_playerAt_4 rfl (lv_at hl 1 rfl) ?_
    refine lv_aload_n hx hb dX7_playerAt_5 rfl (lv_at hl 0 rfl) ?_
    refine va_get (D := D) (ci := 7) (v := .int (gX7_players S)) (C := RX7) (T := TX7) (N := 5) hx hb hts hinX7 hown hK hP 0 rfl rfl 0 (by decide) hf21 (fun _ h9 => h9) rfl dX7_playerAt_6 ?_
    refine lv_icmp_ge (tgt := 27) hx hb dX7_playerAt_9 (by decide) (fun cc => ?_) (fun cc => ?_)
    · have h := ite_p cc h
      exact Jj3  ls h (lv_sub hl [] rfl)
    · have h := ite_n cc h
      refine lv_iload_n hx hb dX7_playerAt_12 rfl (lv_at hl 1 rfl) ?_
      refine lv_bipush (v := (12 : Int32)) hx hb dX7_playerAt_13 (by decide) ?_
      refine lv_icmp_ge (tgt := 27) hx hb dX7_playerAt_15 (by decide) (fun cc => ?_) (fun cc => ?_)
      · have h := ite_p cc h
        exact Jj3  ls h (lv_sub hl [] rfl)
      · have h := ite_n cc h
        refine lv_aload_n hx hb dX7_playerAt_18 rfl (lv_at hl 0 rfl) ?_
        refine va_get (D := D) (ci := 7) (v := .ref (a (o + 1))) (C := RX7) (T := TX7) (N := 5) hx hb hts hinX7 hown hK hP 0 rfl rfl 3 (by decide) hf9 (fun _ h9 => h9) rfl dX7_playerAt_19 ?_
        refine lv_iload_n hx hb dX7_playerAt_22 rfl (lv_at hl 1 rfl) ?_
        obtain ⟨g4, h⟩ := gd_some h
        refine r_ald (f := (gX7_order S)) (n := 12) (v := ((gX7_order S) ((p1).toNatClampNeg))) hx hb hK hP 1 0 rfl rfl (gIn_in g4) rfl dX7_playerAt_23 ?_
        refine lv_goto (tgt := 28) hx hb dX7_playerAt_24 (by decide) ?_
        exact Jj2 ((gX7_order S) ((p1).toNatClampNeg)) ls h (lv_sub hl [] rfl)
set_option maxHeartbeats 4000000 in
set_option maxRecDepth 100000 in
theorem qX7_placeOf (l : Launch) (D : va_G) (cy : Nat → ClassId) (a : Nat → Nat) (o : Nat) (S : SX7) (p1 : Int32) (rs : Int32) (h : DX7_placeOf S p1 = some rs) : Met l yX7_placeOf wsX7_placeOf ({ frames := 1, cells := 0, slots := 0, locals := 21 } : Room) (va_Pc [.ref (a o), .int p1] (fun U => va_P D vwCl (wX7 cy a o S) U.heap ∧ gK D cy U)) (vp_Si (fun z => z = rs)) 0 0 (fun _ => False) := by
  refine Met.ofW (cc := cX7_placeOf) (maxL := 3) (ret := (some .int)) (by decide) rfl ?_
  intro p e s m args below meth c s₁ B hml hv
  obtain ⟨rfl, hP, hG⟩ := hv
  have hx := B.exec
  have hb := B.bytes
  have hr := B.returns
  have hts := atoms_spec (ws := wsX7_placeOf) B.pre
  have hown : s.vm.findClass RX7 = some m.cls := findClass_of_methodNamed B.named
  have hlocks := B.notSynchronized
  have hK := hG.1
  have hinX7 := (by decide +kernel : ∀ w ∈ wsX70, w ∈ wsX7_placeOf)
  have hf21 := hts (.fieldLink RX7 21 "PianoRounds$Stage" "players" "I") (by decide +kernel)
  have hl := lv_entry ([.ref (a o), .int p1]) (n := 3) (Nat.le_of_ble_eq_true rfl)
  rw [lg_entry_eq]
  generalize (lg_sl ([.ref (a o), .int p1]) ++ List.replicate (3 - (lg_sl ([.ref (a o), .int p1])).length) Slot.unset).toArray = ls at hl ⊢
  have hl : lv_has ls 3 [(0, .ref (a o)), (1, .int p1)] := hl
  rw [DX7_placeOf] at h
  refine lv_iconst (v := (0 : Int32)) hx hb dX7_placeOf_0 (by decide) ?_
  refine lv_istore_n (lv' := [(2, .int (0 : Int32)), (0, .ref (a o)), (1, .int p1)]) hx hb dX7_placeOf_1 rfl hl (by decide) rfl (fun ls hl => ?_)
  have L9 : ∀ (c1_1 : Int32) (k2 : Int32 → Option (Int32)) (hk2 : ∀ (v2_3 : Int32) (ls : Array Slot), k2 v2_3 = some rs → lv_has ls 3 [(2, .int v2_3)] → W p l e (headSpec wsX7_placeOf ({ frames := 1, cells := 0, slots := 0, locals := 21 } : Room)).room s m ([.ref (a o), .int p1] : List Value).toArray below meth c s.heap [] 0 0 (MQ below (vp_Si (fun z => z = rs)) ([.ref (a o), .int p1] : List Value).toArray s 0 0 (fun _ => False)) (F0 m 19 ls [])) (k5 : Unit → Option (Int32)) (hk5 : ∀ (ls : Array Slot), k5 () = some rs → lv_has ls 3 [] → W p l e (headSpec wsX7_placeOf ({ frames := 1, cells := 0, slots := 0, locals := 21 } : Room)).room s m ([.ref (a o), .int p1] : List Value).toArray below meth c s.heap [] 0 0 (MQ below (vp_Si (fun z => z = rs)) ([.ref (a o), .int p1] : List Value).toArray s 0 0 (fun _ => False)) (F0 m 27 ls [])) (f : Nat) (v2_6 : Int32) (ls : Array Slot), DX7_placeOf_L2 S c1_1 k2 k5 f v2_6 = some rs → lv_has ls 3 [(0, .ref (a o)), (1, .int c1_1), (2, .int v2_6)] → W p l e (headSpec wsX7_placeOf ({ frames := 1, cells := 0, slots := 0, locals := 21 } : Room)).room s m ([.ref (a o), .int p1] : List Value).toArray below meth c s.heap [] 0 0 (MQ below (vp_Si (fun z => z = rs)) ([.ref (a o), .int p1] : List Value).toArray s 0 0 (fun _ => False)) (F0 m 2 ls []) := by
    intro c1_1 k2 hk2 k5 hk5 f
    induction f with
    | zero =>
      intro v2_6 ls h hl
      rw [DX7_placeOf_L2] at h
      cases h
    | succ f ih =>
      intro v2_6 ls h hl
      rw [DX7_placeOf_L2] at h
      refine lv_iload_n hx hb dX7_placeOf_2 rfl (lv_at hl 2 rfl) ?_
      refine lv_aload_n hx hb dX7_placeOf_3 rfl (lv_at hl 0 rfl) ?_
      refine va_get (D := D) (ci := 7) (v := .int (gX7_players S)) (C := RX7) (T := TX7) (N := 5) hx hb hts hinX7 hown hK hP 0 rfl rfl 0 (by decide) hf21 (fun _ h9 => h9) rfl dX7_placeOf_4 ?_
      refine lv_icmp_ge (tgt := 27) hx hb dX7_placeOf_7 (by decide) (fun cc => ?_) (fun cc => ?_)
      · have h := ite_p cc h
        exact hk5  ls h (lv_sub hl [] rfl)
      · have h := ite_n cc h
        refine lv_aload_n hx hb dX7_placeOf_10 rfl (lv_at hl 0 rfl) ?_
        refine lv_iload_n hx hb dX7_placeOf_11 rfl (lv_at hl 2 rfl) ?_
        obtain ⟨x7, e8, h⟩ := bd_some h
        refine pcV (As := [.int v2_6]) (rest := []) (q0 := 0) (qX7_playerAt l D cy a o S v2_6 x7 e8) ⟨hx, hb, hml, hown, hts⟩ (cwV 1 hts gX7_placeOf_X7_playerAt rfl rfl rfl (by decide +kernel) ⟨Nat.le_of_ble_eq_true rfl, Nat.le_of_ble_eq_true rfl⟩) hG hP rfl rfl rfl hl.1 rfl (Nat.le_of_ble_eq_true rfl) dX7_placeOf_12 ⟨Nat.zero_le _, Nat.zero_le _⟩ ?_
        refine lv_iload_n hx hb dX7_placeOf_15 rfl (lv_at hl 1 rfl) ?_
        refine lv_icmp_ne (tgt := 21) hx hb dX7_placeOf_16 (by decide) (fun cc => ?_) (fun cc => ?_)
        · have h := ite_n cc h
          refine lv_iinc (v := (v2_6 + (1 : Int32))) (lv' := [(2, .int (v2_6 + (1 : Int32))), (0, .ref (a o)), (1, .int c1_1)]) hx hb dX7_placeOf_21 hl (k := 2) rfl (by rfl) (by decide) rfl (fun ls hl => ?_)
          refine lv_goto (tgt := 2) hx hb dX7_placeOf_24 (by decide) ?_
          exact ih (v2_6 + (1 : Int32)) ls h (lv_sub hl [1, 2, 0] rfl)
        · have h := ite_p cc h
          exact hk2 v2_6 ls h (lv_sub hl [2] rfl)
  refine L9 p1 _ ?_ _ ?_ fu (0 : Int32) ls h (lv_sub hl [1, 2, 0] rfl)
  · intro v2_4 ls h hl
    refine lv_iload_n hx hb dX7_placeOf_19 rfl (lv_at hl 0 rfl) ?_
    exact W.iret (v := v2_4) hx hb hr (fun t ht hW => ⟨v2_4, rfl, some_in h, ht⟩) (fun q hq => nomatch hq) dX7_placeOf_20
  · intro ls h hl
    refine lv_iconst (v := (-1 : Int32)) hx hb dX7_placeOf_27 (by decide) ?_
    exact W.iret (v := (-1 : Int32)) hx hb hr (fun t ht hW => ⟨(-1 : Int32), rfl, some_in h, ht⟩) (fun q hq => nomatch hq) dX7_placeOf_28
set_option maxHeartbeats 4000000 in
set_option maxRecDepth 100000 in
theorem qX11_isBetween (l : Launch) (D : va_G) (cy : Nat → ClassId)   (p0 : Int32) (p1 : Int32) (p2 : Int32) (rs : Int32) (h : DX11_isBetween p0 p1 p2 = some rs) : Met l yX11_isBetween wsX11_isBetween ({ frames := 0, cells := 0, slots := 0, locals := 0 } : Room) (va_Pc [.int p0, .int p1, .int p2] (fun U => va_P D vwCl ([] : va_W) U.heap ∧ gK D cy U)) (vp_Si (fun z => z = rs)) 0 0 (fun _ => False) := by
  refine Met.ofW (cc := cX11_isBetween) (maxL := 3) (ret := (some .boolean)) (by decide) rfl ?_
  intro p e s m args below meth c s₁ B hml hv
  obtain ⟨rfl, hP, hG⟩ := hv
  have hx := B.exec
  have hb := B.bytes
  have hr := B.returns
  have hts := atoms_spec (ws := wsX11_isBetween) B.pre
  have hown : s.vm.findClass RX11 = some m.cls := findClass_of_methodNamed B.named
  have hlocks := B.notSynchronized
  have hK := hG.1
  have hl := lv_entry ([.int p0, .int p1, .int p2]) (n := 3) (Nat.le_of_ble_eq_true rfl)
  rw [lg_entry_eq]
  generalize (lg_sl ([.int p0, .int p1, .int p2]) ++ List.replicate (3 - (lg_sl ([.int p0, .int p1, .int p2])).length) Slot.unset).toArray = ls at hl ⊢
  have hl : lv_has ls 3 [(0, .int p0), (1, .int p1), (2, .int p2)] := hl
  rw [DX11_isBetween] at h
  refine lv_iload_n hx hb dX11_isBetween_0 rfl (lv_at hl 0 rfl) ?_
  refine lv_iload_n hx hb dX11_isBetween_1 rfl (lv_at hl 1 rfl) ?_
  obtain ⟨j2, hj2, h⟩ := jn_elim h
  have Jj2 : ∀ (x1 : Int32) (ls : Array Slot), j2 x1 = some rs → lv_has ls 3 [] → W p l e (headSpec wsX11_isBetween ({ frames := 0, cells := 0, slots := 0, locals := 0 } : Room)).room s m ([.int p0, .int p1, .int p2] : List Value).toArray below meth c s.heap [] 0 0 (MQ below (vp_Si (fun z => z = rs)) ([.int p0, .int p1, .int p2] : List Value).toArray s 0 0 (fun _ => False)) (F0 m 15 ls [.int x1]) := by
    intro x1 ls h hl
    rw [hj2] at h
    obtain ⟨g3, h⟩ := gd_some h
    exact W.zret (v := x1) hx hb hr (zN g3) (fun t ht hW => ⟨x1, rfl, some_in h, ht⟩) (fun q hq => nomatch hq) dX11_isBetween_15
  obtain ⟨j4, hj4, h⟩ := jn_elim h
  have Jj4 : ∀ (ls : Array Slot), j4 () = some rs → lv_has ls 3 [] → W p l e (headSpec wsX11_isBetween ({ frames := 0, cells := 0, slots := 0, locals := 0 } : Room)).room s m ([.int p0, .int p1, .int p2] : List Value).toArray below meth c s.heap [] 0 0 (MQ below (vp_Si (fun z => z = rs)) ([.int p0, .int p1, .int p2] : List Value).toArray s 0 0 (fun _ => False)) (F0 m 14 ls []) := by
    intro ls h hl
    rw [hj4] at h
    refine lv_iconst (v := (0 : Int32)) hx hb dX11_isBetween_14 (by decide) ?_
    exact Jj2 (0 : Int32) ls h (lv_sub hl [] rfl)
  refine lv_icmp_lt (tgt := 14) hx hb dX11_isBetween_2 (by decide) (fun cc => ?_) (fun cc => ?_)
  · have h := ite_p cc h
    exact Jj4  ls h (lv_sub hl [] rfl)
  · have h := ite_n cc h
    refine lv_iload_n hx hb dX11_isBetween_5 rfl (lv_at hl 0 rfl) ?_
    refine lv_iload_n hx hb dX11_isBetween_6 rfl (lv_at hl 2 rfl) ?_
    refine lv_icmp_gt (tgt := 14) hx hb dX11_isBetween_7 (by decide) (fun cc => ?_) (fun cc => ?_)
    · have h := ite_p cc h
      exact Jj4  ls h (lv_sub hl [] rfl)
    · have h := ite_n cc h
      refine lv_iconst (v := (1 : Int32)) hx hb dX11_isBetween_10 (by decide) ?_
      refine lv_goto (tgt := 15) hx hb dX11_isBetween_11 (by decide) ?_
      exact Jj2 (1 : Int32) ls h (lv_sub hl [] rfl)
set_option maxHeartbeats 4000000 in
set_option maxRecDepth 100000 in
theorem qX7_slipsOf (l : Launch) (D : va_G) (cy : Nat → ClassId) (a : Nat → Nat) (o : Nat) (S : SX7) (p1 : Int32) (rs : Int32) (h : DX7_slipsOf S p1 = some rs) : Met l yX7_slipsOf wsX7_slipsOf ({ frames := 1, cells := 0, slots := 0, locals := 22 } : Room) (va_Pc [.ref (a o), .int p1] (fun U => va_P D vwCl (wX7 cy a o S) U.heap ∧ gK D cy U)) (vp_Si (fun z => z = rs)) 0 0 (fun _ => False) := by
  refine Met.ofW (cc := cX7_slipsOf) (maxL := 2) (ret := (some .int)) (by decide) rfl ?_
  intro p e s m args below meth c s₁ B hml hv
  obtain ⟨rfl, hP, hG⟩ := hv
  have hx := B.exec
  have hb := B.bytes
  have hr := B.returns
  have hts := atoms_spec (ws := wsX7_slipsOf) B.pre
  have hown : s.vm.findClass RX7 = some m.cls := findClass_of_methodNamed B.named
  have hlocks := B.notSynchronized
  have hK := hG.1
  have hinX7 := (by decide +kernel : ∀ w ∈ wsX70, w ∈ wsX7_slipsOf)
  have hf15 := hts (.fieldLink RX7 15 "PianoRounds$Stage" "slips" "[I") (by decide +kernel)
  have hl := lv_entry ([.ref (a o), .int p1]) (n := 2) (Nat.le_of_ble_eq_true rfl)
  rw [lg_entry_eq]
  generalize (lg_sl ([.ref (a o), .int p1]) ++ List.replicate (2 - (lg_sl ([.ref (a o), .int p1])).length) Slot.unset).toArray = ls at hl ⊢
  have hl : lv_has ls 2 [(0, .ref (a o)), (1, .int p1)] := hl
  rw [DX7_slipsOf] at h
  refine lv_iload_n hx hb dX7_slipsOf_0 rfl (lv_at hl 1 rfl) ?_
  refine lv_iconst (v := (0 : Int32)) hx hb dX7_slipsOf_1 (by decide) ?_
  refine lv_bipush (v := (11 : Int32)) hx hb dX7_slipsOf_2 (by decide) ?_
  obtain ⟨x1, e2, h⟩ := bd_some h
  refine pcSN (As := [.int p1, .int (0 : Int32), .int (11 : Int32)]) (rest := []) (qX11_isBetween l D cy  p1 (0 : Int32) (11 : Int32) x1 e2) ⟨hx, hb, hml, hown, hts⟩ ⟨va_cnB (y := yX11_isBetween) 3 hts gX7_slipsOf_X11_isBetween_n50 rfl rfl rfl (hG.2.2.1 (.methodLinkNest "PianoRounds$Stage" 50 ⟨"PianoRounds", "isBetween", "(III)Z"⟩ "PianoRounds") (by decide +kernel)) (hts (.initialized RX11) (by decide +kernel)) (by decide +kernel) ⟨Nat.le_of_ble_eq_true rfl, Nat.le_of_ble_eq_true rfl⟩, hts (.static yX11_isBetween) (by decide +kernel), trivial⟩ hG (hP.sub [] rfl) rfl hl.1 rfl (Nat.le_of_ble_eq_true rfl) dX7_slipsOf_4 ⟨Nat.zero_le _, Nat.zero_le _⟩ ?_
  obtain ⟨j4, hj4, h⟩ := jn_elim h
  have Jj4 : ∀ (x3 : Int32) (ls : Array Slot), j4 x3 = some rs → lv_has ls 2 [] → W p l e (headSpec wsX7_slipsOf ({ frames := 1, cells := 0, slots := 0, locals := 22 } : Room)).room s m ([.ref (a o), .int p1] : List Value).toArray below meth c s.heap [] 0 0 (MQ below (vp_Si (fun z => z = rs)) ([.ref (a o), .int p1] : List Value).toArray s 0 0 (fun _ => False)) (F0 m 20 ls [.int x3]) := by
    intro x3 ls h hl
    rw [hj4] at h
    exact W.iret (v := x3) hx hb hr (fun t ht hW => ⟨x3, rfl, some_in h, ht⟩) (fun q hq => nomatch hq) dX7_slipsOf_20
  refine lv_if_eq (tgt := 19) hx hb dX7_slipsOf_7 (by decide) (fun cc => ?_) (fun cc => ?_)
  · have h := ite_p cc h
    refine lv_iconst (v := (-1 : Int32)) hx hb dX7_slipsOf_19 (by decide) ?_
    exact Jj4 (-1 : Int32) ls h (lv_sub hl [] rfl)
  · have h := ite_n cc h
    refine lv_aload_n hx hb dX7_slipsOf_10 rfl (lv_at hl 0 rfl) ?_
    refine va_get (D := D) (ci := 7) (v := .ref (a (o + 2))) (C := RX7) (T := TX7) (N := 5) hx hb hts hinX7 hown hK hP 0 rfl rfl 4 (by decide) hf15 (fun _ h9 => h9) rfl dX7_slipsOf_11 ?_
    refine lv_iload_n hx hb dX7_slipsOf_14 rfl (lv_at hl 1 rfl) ?_
    obtain ⟨g5, h⟩ := gd_some h
    refine r_ald (f := (gX7_slips S)) (n := 12) (v := ((gX7_slips S) ((p1).toNatClampNeg))) hx hb hK hP 2 0 rfl rfl (gIn_in g5) rfl dX7_slipsOf_15 ?_
    refine lv_goto (tgt := 20) hx hb dX7_slipsOf_16 (by decide) ?_
    exact Jj4 ((gX7_slips S) ((p1).toNatClampNeg)) ls h (lv_sub hl [] rfl)
set_option maxHeartbeats 4000000 in
set_option maxRecDepth 100000 in
theorem qX6_at (l : Launch) (D : va_G) (cy : Nat → ClassId) (a : Nat → Nat) (o : Nat) (S : SX6) (p1 : Int32) (p2 : Int32) (rs : Int32) (h : DX6_at S p1 p2 = some rs) : Met l yX6_at wsX6_at ({ frames := 0, cells := 0, slots := 0, locals := 0 } : Room) (va_Pc [.ref (a o), .int p1, .int p2] (fun U => va_P D vwCl (wX6 cy a o S) U.heap ∧ gK D cy U)) (vp_Si (fun z => z = rs)) 0 0 (fun _ => False) := by
  refine Met.ofW (cc := cX6_at) (maxL := 4) (ret := (some .int)) (by decide) rfl ?_
  intro p e s m args below meth c s₁ B hml hv
  obtain ⟨rfl, hP, hG⟩ := hv
  have hx := B.exec
  have hb := B.bytes
  have hr := B.returns
  have hts := atoms_spec (ws := wsX6_at) B.pre
  have hown : s.vm.findClass RX6 = some m.cls := findClass_of_methodNamed B.named
  have hlocks := B.notSynchronized
  have hK := hG.1
  have hinX6 := (by decide +kernel : ∀ w ∈ wsX60, w ∈ wsX6_at)
  have hf11 := hts (.fieldLink RX6 11 "PianoRounds$Sheet" "rows" "[[I") (by decide +kernel)
  have hl := lv_entry ([.ref (a o), .int p1, .int p2]) (n := 4) (Nat.le_of_ble_eq_true rfl)
  rw [lg_entry_eq]
  generalize (lg_sl ([.ref (a o), .int p1, .int p2]) ++ List.replicate (4 - (lg_sl ([.ref (a o), .int p1, .int p2])).length) Slot.unset).toArray = ls at hl ⊢
  have hl : lv_has ls 4 [(0, .ref (a o)), (1, .int p1), (2, .int p2)] := hl
  rw [DX6_at] at h
  refine lv_iload_n hx hb dX6_at_0 rfl (lv_at hl 1 rfl) ?_
  obtain ⟨j2, hj2, h⟩ := jn_elim h
  have Jj2 : ∀ (x1 : Int32) (ls : Array Slot), j2 x1 = some rs → lv_has ls 4 [(0, .ref (a o)), (1, .int p1), (2, .int p2)] → W p l e (headSpec wsX6_at ({ frames := 0, cells := 0, slots := 0, locals := 0 } : Room)).room s m ([.ref (a o), .int p1, .int p2] : List Value).toArray below meth c s.heap [] 0 0 (MQ below (vp_Si (fun z => z = rs)) ([.ref (a o), .int p1, .int p2] : List Value).toArray s 0 0 (fun _ => False)) (F0 m 25 ls [.int x1]) := by
    intro x1 ls h hl
    rw [hj2] at h
    refine lv_istore_n (lv' := [(3, .int x1), (0, .ref (a o)), (1, .int p1), (2, .int p2)]) hx hb dX6_at_25 rfl hl (by decide) rfl (fun ls hl => ?_)
    refine lv_iload_n hx hb dX6_at_26 rfl (lv_at hl 0 rfl) ?_
    obtain ⟨j4, hj4, h⟩ := jn_elim h
    have Jj4 : ∀ (x3 : Int32) (ls : Array Slot), j4 x3 = some rs → lv_has ls 4 [] → W p l e (headSpec wsX6_at ({ frames := 0, cells := 0, slots := 0, locals := 0 } : Room)).room s m ([.ref (a o), .int p1, .int p2] : List Value).toArray below meth c s.heap [] 0 0 (MQ below (vp_Si (fun z => z = rs)) ([.ref (a o), .int p1, .int p2] : List Value).toArray s 0 0 (fun _ => False)) (F0 m 42 ls [.int x3]) := by
      intro x3 ls h hl
      rw [hj4] at h
      exact W.iret (v := x3) hx hb hr (fun t ht hW => ⟨x3, rfl, some_in h, ht⟩) (fun q hq => nomatch hq) dX6_at_42
    refine lv_if_eq (tgt := 41) hx hb dX6_at_27 (by decide) (fun cc => ?_) (fun cc => ?_)
    · have h := ite_p cc h
      refine lv_iconst (v := (-1 : Int32)) hx hb dX6_at_41 (by decide) ?_
      exact Jj4 (-1 : Int32) ls h (lv_sub hl [] rfl)
    · have h := ite_n cc h
      refine lv_aload_n hx hb dX6_at_30 rfl (lv_at hl 1 rfl) ?_
      refine va_get (D := D) (ci := 6) (v := .ref (a (o + 1))) (C := RX6) (T := TX6) (N := 1) hx hb hts hinX6 hown hK hP 0 rfl rfl 0 (by decide) hf11 (fun _ h9 => h9) rfl dX6_at_31 ?_
      refine lv_iload_n hx hb dX6_at_34 rfl (lv_at hl 2 rfl) ?_
      obtain ⟨g5, h⟩ := gd_some h
      refine r_aldR (n := 7) (o := o + 1) (ad := a) (j := (p1).toNatClampNeg) hx hb hK hP 1 2 rfl rfl (gIn_in g5) rfl dX6_at_35 ?_
      refine lv_iload_n hx hb dX6_at_36 rfl (lv_at hl 3 rfl) ?_
      obtain ⟨g6, h⟩ := gd_some h
      refine r_ald (f := ((gX6_rows S) ((p1).toNatClampNeg))) (n := 12) (v := (((gX6_rows S) ((p1).toNatClampNeg)) ((p2).toNatClampNeg))) hx hb hK hP (1 + 1 + ((p1).toNatClampNeg)) 0 (all7 (P := fun j => (wX6 cy a o S)[1 + 1 + j]? = some (a (o + 1 + 1 + j), .inl (cy 0, 12, .inl ((gX6_rows S) j)))) rfl rfl rfl rfl rfl rfl rfl _ (gIn_lt g5)) rfl (gIn_in g6) rfl dX6_at_37 ?_
      refine lv_goto (tgt := 42) hx hb dX6_at_38 (by decide) ?_
      exact Jj4 (((gX6_rows S) ((p1).toNatClampNeg)) ((p2).toNatClampNeg)) ls h (lv_sub hl [] rfl)
  obtain ⟨j7, hj7, h⟩ := jn_elim h
  have Jj7 : ∀ (ls : Array Slot), j7 () = some rs → lv_has ls 4 [(0, .ref (a o)), (1, .int p1), (2, .int p2)] → W p l e (headSpec wsX6_at ({ frames := 0, cells := 0, slots := 0, locals := 0 } : Room)).room s m ([.ref (a o), .int p1, .int p2] : List Value).toArray below meth c s.heap [] 0 0 (MQ below (vp_Si (fun z => z = rs)) ([.ref (a o), .int p1, .int p2] : List Value).toArray s 0 0 (fun _ => False)) (F0 m 24 ls []) := by
    intro ls h hl
    rw [hj7] at h
    refine lv_iconst (v := (0 : Int32)) hx hb dX6_at_24 (by decide) ?_
    exact Jj2 (0 : Int32) ls h (lv_sub hl [0, 1, 2] rfl)
  refine lv_if_lt (tgt := 24) hx hb dX6_at_1 (by decide) (fun cc => ?_) (fun cc => ?_)
  · have h := ite_p cc h
    exact Jj7  ls h (lv_sub hl [0, 1, 2] rfl)
  · have h := ite_n cc h
    refine lv_iload_n hx hb dX6_at_4 rfl (lv_at hl 1 rfl) ?_
    refine lv_bipush (v := (7 : Int32)) hx hb dX6_at_5 (by decide) ?_
    refine lv_icmp_ge (tgt := 24) hx hb dX6_at_7 (by decide) (fun cc => ?_) (fun cc => ?_)
    · have h := ite_p cc h
      exact Jj7  ls h (lv_sub hl [0, 1, 2] rfl)
    · have h := ite_n cc h
      refine lv_iload_n hx hb dX6_at_10 rfl (lv_at hl 2 rfl) ?_
      refine lv_if_lt (tgt := 24) hx hb dX6_at_11 (by decide) (fun cc => ?_) (fun cc => ?_)
      · have h := ite_p cc h
        exact Jj7  ls h (lv_sub hl [0, 1, 2] rfl)
      · have h := ite_n cc h
        refine lv_iload_n hx hb dX6_at_14 rfl (lv_at hl 2 rfl) ?_
        refine lv_bipush (v := (12 : Int32)) hx hb dX6_at_15 (by decide) ?_
        refine lv_icmp_ge (tgt := 24) hx hb dX6_at_17 (by decide) (fun cc => ?_) (fun cc => ?_)
        · have h := ite_p cc h
          exact Jj7  ls h (lv_sub hl [0, 1, 2] rfl)
        · have h := ite_n cc h
          refine lv_iconst (v := (1 : Int32)) hx hb dX6_at_20 (by decide) ?_
          refine lv_goto (tgt := 25) hx hb dX6_at_21 (by decide) ?_
          exact Jj2 (1 : Int32) ls h (lv_sub hl [0, 1, 2] rfl)
set_option maxHeartbeats 4000000 in
set_option maxRecDepth 100000 in
theorem qX3_isBarred (l : Launch) (D : va_G) (cy : Nat → ClassId) (a : Nat → Nat) (o : Nat) (S : SX3) (p1 : Int32) (p2 : Int32) (rs : Int32) (h : DX3_isBarred S p1 p2 = some rs) : Met l yX3_isBarred wsX3_isBarred ({ frames := 0, cells := 0, slots := 0, locals := 0 } : Room) (va_Pc [.ref (a o), .int p1, .int p2] (fun U => va_P D vwCl (wX3 cy a o S) U.heap ∧ gK D cy U)) (vp_Si (fun z => z = rs)) 0 0 (fun _ => False) := by
  refine Met.ofW (cc := cX3_isBarred) (maxL := 4) (ret := (some .boolean)) (by decide) rfl ?_
  intro p e s m args below meth c s₁ B hml hv
  obtain ⟨rfl, hP, hG⟩ := hv
  have hx := B.exec
  have hb := B.bytes
  have hr := B.returns
  have hts := atoms_spec (ws := wsX3_isBarred) B.pre
  have hown : s.vm.findClass RX3 = some m.cls := findClass_of_methodNamed B.named
  have hlocks := B.notSynchronized
  have hK := hG.1
  have hinX3 := (by decide +kernel : ∀ w ∈ wsX30, w ∈ wsX3_isBarred)
  have hf17 := hts (.fieldLink RX3 17 "PianoRounds$Jury" "barred" "[[I") (by decide +kernel)
  have hl := lv_entry ([.ref (a o), .int p1, .int p2]) (n := 4) (Nat.le_of_ble_eq_true rfl)
  rw [lg_entry_eq]
  generalize (lg_sl ([.ref (a o), .int p1, .int p2]) ++ List.replicate (4 - (lg_sl ([.ref (a o), .int p1, .int p2])).length) Slot.unset).toArray = ls at hl ⊢
  have hl : lv_has ls 4 [(0, .ref (a o)), (1, .int p1), (2, .int p2)] := hl
  rw [DX3_isBarred] at h
  refine lv_iload_n hx hb dX3_isBarred_0 rfl (lv_at hl 1 rfl) ?_
  obtain ⟨j2, hj2, h⟩ := jn_elim h
  have Jj2 : ∀ (x1 : Int32) (ls : Array Slot), j2 x1 = some rs → lv_has ls 4 [(0, .ref (a o)), (1, .int p1), (2, .int p2)] → W p l e (headSpec wsX3_isBarred ({ frames := 0, cells := 0, slots := 0, locals := 0 } : Room)).room s m ([.ref (a o), .int p1, .int p2] : List Value).toArray below meth c s.heap [] 0 0 (MQ below (vp_Si (fun z => z = rs)) ([.ref (a o), .int p1, .int p2] : List Value).toArray s 0 0 (fun _ => False)) (F0 m 25 ls [.int x1]) := by
    intro x1 ls h hl
    rw [hj2] at h
    refine lv_istore_n (lv' := [(3, .int x1), (0, .ref (a o)), (1, .int p1), (2, .int p2)]) hx hb dX3_isBarred_25 rfl hl (by decide) rfl (fun ls hl => ?_)
    refine lv_iload_n hx hb dX3_isBarred_26 rfl (lv_at hl 0 rfl) ?_
    obtain ⟨j4, hj4, h⟩ := jn_elim h
    have Jj4 : ∀ (x3 : Int32) (ls : Array Slot), j4 x3 = some rs → lv_has ls 4 [] → W p l e (headSpec wsX3_isBarred ({ frames := 0, cells := 0, slots := 0, locals := 0 } : Room)).room s m ([.ref (a o), .int p1, .int p2] : List Value).toArray below meth c s.heap [] 0 0 (MQ below (vp_Si (fun z => z = rs)) ([.ref (a o), .int p1, .int p2] : List Value).toArray s 0 0 (fun _ => False)) (F0 m 47 ls [.int x3]) := by
      intro x3 ls h hl
      rw [hj4] at h
      obtain ⟨g5, h⟩ := gd_some h
      exact W.zret (v := x3) hx hb hr (zN g5) (fun t ht hW => ⟨x3, rfl, some_in h, ht⟩) (fun q hq => nomatch hq) dX3_isBarred_47
    obtain ⟨j6, hj6, h⟩ := jn_elim h
    have Jj6 : ∀ (ls : Array Slot), j6 () = some rs → lv_has ls 4 [] → W p l e (headSpec wsX3_isBarred ({ frames := 0, cells := 0, slots := 0, locals := 0 } : Room)).room s m ([.ref (a o), .int p1, .int p2] : List Value).toArray below meth c s.heap [] 0 0 (MQ below (vp_Si (fun z => z = rs)) ([.ref (a o), .int p1, .int p2] : List Value).toArray s 0 0 (fun _ => False)) (F0 m 46 ls []) := by
      intro ls h hl
      rw [hj6] at h
      refine lv_iconst (v := (0 : Int32)) hx hb dX3_isBarred_46 (by decide) ?_
      exact Jj4 (0 : Int32) ls h (lv_sub hl [] rfl)
    refine lv_if_eq (tgt := 46) hx hb dX3_isBarred_27 (by decide) (fun cc => ?_) (fun cc => ?_)
    · have h := ite_p cc h
      exact Jj6  ls h (lv_sub hl [] rfl)
    · have h := ite_n cc h
      refine lv_aload_n hx hb dX3_isBarred_30 rfl (lv_at hl 1 rfl) ?_
      refine va_get (D := D) (ci := 3) (v := .ref (a (o + 1))) (C := RX3) (T := TX3) (N := 2) hx hb hts hinX3 hown hK hP 0 rfl rfl 1 (by decide) hf17 (fun _ h9 => h9) rfl dX3_isBarred_31 ?_
      refine lv_iload_n hx hb dX3_isBarred_34 rfl (lv_at hl 2 rfl) ?_
      obtain ⟨g7, h⟩ := gd_some h
      refine r_aldR (n := 7) (o := o + 1) (ad := a) (j := (p1).toNatClampNeg) hx hb hK hP 1 2 rfl rfl (gIn_in g7) rfl dX3_isBarred_35 ?_
      refine lv_iload_n hx hb dX3_isBarred_36 rfl (lv_at hl 3 rfl) ?_
      obtain ⟨g8, h⟩ := gd_some h
      refine r_ald (f := ((gX3_barred S) ((p1).toNatClampNeg))) (n := 12) (v := (((gX3_barred S) ((p1).toNatClampNeg)) ((p2).toNatClampNeg))) hx hb hK hP (1 + 1 + ((p1).toNatClampNeg)) 0 (all7 (P := fun j => (wX3 cy a o S)[1 + 1 + j]? = some (a (o + 1 + 1 + j), .inl (cy 0, 12, .inl ((gX3_barred S) j)))) rfl rfl rfl rfl rfl rfl rfl _ (gIn_lt g7)) rfl (gIn_in g8) rfl dX3_isBarred_37 ?_
      refine lv_iconst (v := (1 : Int32)) hx hb dX3_isBarred_38 (by decide) ?_
      refine lv_icmp_ne (tgt := 46) hx hb dX3_isBarred_39 (by decide) (fun cc => ?_) (fun cc => ?_)
      · have h := ite_n cc h
        exact Jj6  ls h (lv_sub hl [] rfl)
      · have h := ite_p cc h
        refine lv_iconst (v := (1 : Int32)) hx hb dX3_isBarred_42 (by decide) ?_
        refine lv_goto (tgt := 47) hx hb dX3_isBarred_43 (by decide) ?_
        exact Jj4 (1 : Int32) ls h (lv_sub hl [] rfl)
  obtain ⟨j9, hj9, h⟩ := jn_elim h
  have Jj9 : ∀ (ls : Array Slot), j9 () = some rs → lv_has ls 4 [(0, .ref (a o)), (1, .int p1), (2, .int p2)] → W p l e (headSpec wsX3_isBarred ({ frames := 0, cells := 0, slots := 0, locals := 0 } : Room)).room s m ([.ref (a o), .int p1, .int p2] : List Value).toArray below meth c s.heap [] 0 0 (MQ below (vp_Si (fun z => z = rs)) ([.ref (a o), .int p1, .int p2] : List Value).toArray s 0 0 (fun _ => False)) (F0 m 24 ls []) := by
    intro ls h hl
    rw [hj9] at h
    refine lv_iconst (v := (0 : Int32)) hx hb dX3_isBarred_24 (by decide) ?_
    exact Jj2 (0 : Int32) ls h (lv_sub hl [0, 1, 2] rfl)
  refine lv_if_lt (tgt := 24) hx hb dX3_isBarred_1 (by decide) (fun cc => ?_) (fun cc => ?_)
  · have h := ite_p cc h
    exact Jj9  ls h (lv_sub hl [0, 1, 2] rfl)
  · have h := ite_n cc h
    refine lv_iload_n hx hb dX3_isBarred_4 rfl (lv_at hl 1 rfl) ?_
    refine lv_bipush (v := (7 : Int32)) hx hb dX3_isBarred_5 (by decide) ?_
    refine lv_icmp_ge (tgt := 24) hx hb dX3_isBarred_7 (by decide) (fun cc => ?_) (fun cc => ?_)
    · have h := ite_p cc h
      exact Jj9  ls h (lv_sub hl [0, 1, 2] rfl)
    · have h := ite_n cc h
      refine lv_iload_n hx hb dX3_isBarred_10 rfl (lv_at hl 2 rfl) ?_
      refine lv_if_lt (tgt := 24) hx hb dX3_isBarred_11 (by decide) (fun cc => ?_) (fun cc => ?_)
      · have h := ite_p cc h
        exact Jj9  ls h (lv_sub hl [0, 1, 2] rfl)
      · have h := ite_n cc h
        refine lv_iload_n hx hb dX3_isBarred_14 rfl (lv_at hl 2 rfl) ?_
        refine lv_bipush (v := (12 : Int32)) hx hb dX3_isBarred_15 (by decide) ?_
        refine lv_icmp_ge (tgt := 24) hx hb dX3_isBarred_17 (by decide) (fun cc => ?_) (fun cc => ?_)
        · have h := ite_p cc h
          exact Jj9  ls h (lv_sub hl [0, 1, 2] rfl)
        · have h := ite_n cc h
          refine lv_iconst (v := (1 : Int32)) hx hb dX3_isBarred_20 (by decide) ?_
          refine lv_goto (tgt := 25) hx hb dX3_isBarred_21 (by decide) ?_
          exact Jj2 (1 : Int32) ls h (lv_sub hl [0, 1, 2] rfl)
set_option maxHeartbeats 4000000 in
set_option maxRecDepth 100000 in
theorem qX3_counts (l : Launch) (D : va_G) (cy : Nat → ClassId) (a : Nat → Nat) (o : Nat) (b1 : Nat → Nat) (z1 : Nat) (S : SX3) (T1 : SX6) (p2 : Int32) (p3 : Int32) (rs : Int32) (h : DX3_counts S T1 p2 p3 = some rs) : Met l yX3_counts wsX3_counts ({ frames := 1, cells := 0, slots := 0, locals := 23 } : Room) (va_Pc [.ref (a o), .ref (b1 z1), .int p2, .int p3] (fun U => va_P D vwCl ((wX3 cy a o S) ++ (wX6 cy b1 z1 T1)) U.heap ∧ gK D cy U)) (vp_Si (fun z => z = rs)) 0 0 (fun _ => False) := by
  refine Met.ofW (cc := cX3_counts) (maxL := 4) (ret := (some .boolean)) (by decide) rfl ?_
  intro p e s m args below meth c s₁ B hml hv
  obtain ⟨rfl, hP, hG⟩ := hv
  have hx := B.exec
  have hb := B.bytes
  have hr := B.returns
  have hts := atoms_spec (ws := wsX3_counts) B.pre
  have hown : s.vm.findClass RX3 = some m.cls := findClass_of_methodNamed B.named
  have hlocks := B.notSynchronized
  have hK := hG.1
  have hl := lv_entry ([.ref (a o), .ref (b1 z1), .int p2, .int p3]) (n := 4) (Nat.le_of_ble_eq_true rfl)
  rw [lg_entry_eq]
  generalize (lg_sl ([.ref (a o), .ref (b1 z1), .int p2, .int p3]) ++ List.replicate (4 - (lg_sl ([.ref (a o), .ref (b1 z1), .int p2, .int p3])).length) Slot.unset).toArray = ls at hl ⊢
  have hl : lv_has ls 4 [(0, .ref (a o)), (1, .ref (b1 z1)), (2, .int p2), (3, .int p3)] := hl
  rw [DX3_counts] at h
  refine lv_aload_n hx hb dX3_counts_0 rfl (lv_at hl 1 rfl) ?_
  refine lv_iload_n hx hb dX3_counts_1 rfl (lv_at hl 2 rfl) ?_
  refine lv_iload_n hx hb dX3_counts_2 rfl (lv_at hl 3 rfl) ?_
  obtain ⟨x1, e2, h⟩ := bd_some h
  refine pcV (As := [.int p2, .int p3]) (rest := []) (q0 := 0) (qX6_at l D cy b1 z1 T1 p2 p3 x1 e2) ⟨hx, hb, hml, hown, hts⟩ (cwV 2 hts gX3_counts_X6_at rfl rfl rfl (by decide +kernel) ⟨Nat.le_of_ble_eq_true rfl, Nat.le_of_ble_eq_true rfl⟩) hG (P_seg (X := (wX3 cy a o S)) (c := (wX6 cy b1 z1 T1)) (Y := ([] : va_W)) hP (by simp only [List.append_assoc, List.nil_append, List.append_nil] <;> rfl)) rfl rfl rfl hl.1 rfl (Nat.le_of_ble_eq_true rfl) dX3_counts_3 ⟨Nat.zero_le _, Nat.zero_le _⟩ ?_
  obtain ⟨j4, hj4, h⟩ := jn_elim h
  have Jj4 : ∀ (x3 : Int32) (ls : Array Slot), j4 x3 = some rs → lv_has ls 4 [] → W p l e (headSpec wsX3_counts ({ frames := 1, cells := 0, slots := 0, locals := 23 } : Room)).room s m ([.ref (a o), .ref (b1 z1), .int p2, .int p3] : List Value).toArray below meth c s.heap [] 0 0 (MQ below (vp_Si (fun z => z = rs)) ([.ref (a o), .ref (b1 z1), .int p2, .int p3] : List Value).toArray s 0 0 (fun _ => False)) (F0 m 23 ls [.int x3]) := by
    intro x3 ls h hl
    rw [hj4] at h
    obtain ⟨g5, h⟩ := gd_some h
    exact W.zret (v := x3) hx hb hr (zN g5) (fun t ht hW => ⟨x3, rfl, some_in h, ht⟩) (fun q hq => nomatch hq) dX3_counts_23
  obtain ⟨j6, hj6, h⟩ := jn_elim h
  have Jj6 : ∀ (ls : Array Slot), j6 () = some rs → lv_has ls 4 [] → W p l e (headSpec wsX3_counts ({ frames := 1, cells := 0, slots := 0, locals := 23 } : Room)).room s m ([.ref (a o), .ref (b1 z1), .int p2, .int p3] : List Value).toArray below meth c s.heap [] 0 0 (MQ below (vp_Si (fun z => z = rs)) ([.ref (a o), .ref (b1 z1), .int p2, .int p3] : List Value).toArray s 0 0 (fun _ => False)) (F0 m 22 ls []) := by
    intro ls h hl
    rw [hj6] at h
    refine lv_iconst (v := (0 : Int32)) hx hb dX3_counts_22 (by decide) ?_
    exact Jj4 (0 : Int32) ls h (lv_sub hl [] rfl)
  refine lv_if_lt (tgt := 22) hx hb dX3_counts_6 (by decide) (fun cc => ?_) (fun cc => ?_)
  · have h := ite_p cc h
    exact Jj6  ls h (lv_sub hl [] rfl)
  · have h := ite_n cc h
    refine lv_aload_n hx hb dX3_counts_9 rfl (lv_at hl 0 rfl) ?_
    refine lv_iload_n hx hb dX3_counts_10 rfl (lv_at hl 2 rfl) ?_
    refine lv_iload_n hx hb dX3_counts_11 rfl (lv_at hl 3 rfl) ?_
    obtain ⟨x7, e8, h⟩ := bd_some h
    refine pcV (As := [.int p2, .int p3]) (rest := []) (q0 := 0) (qX3_isBarred l D cy a o S p2 p3 x7 e8) ⟨hx, hb, hml, hown, hts⟩ (cwV 2 hts gX3_counts_X3_isBarred rfl rfl rfl (by decide +kernel) ⟨Nat.le_of_ble_eq_true rfl, Nat.le_of_ble_eq_true rfl⟩) hG (P_seg (X := ([] : va_W)) (c := (wX3 cy a o S)) (Y := (wX6 cy b1 z1 T1)) hP (by simp only [List.append_assoc, List.nil_append, List.append_nil] <;> rfl)) rfl rfl rfl hl.1 rfl (Nat.le_of_ble_eq_true rfl) dX3_counts_12 ⟨Nat.zero_le _, Nat.zero_le _⟩ ?_
    refine lv_if_ne (tgt := 22) hx hb dX3_counts_15 (by decide) (fun cc => ?_) (fun cc => ?_)
    · have h := ite_n cc h
      exact Jj6  ls h (lv_sub hl [] rfl)
    · have h := ite_p cc h
      refine lv_iconst (v := (1 : Int32)) hx hb dX3_counts_18 (by decide) ?_
      refine lv_goto (tgt := 23) hx hb dX3_counts_19 (by decide) ?_
      exact Jj4 (1 : Int32) ls h (lv_sub hl [] rfl)
set_option maxHeartbeats 4000000 in
set_option maxRecDepth 100000 in
theorem qX3_countMarks (l : Launch) (D : va_G) (cy : Nat → ClassId) (a : Nat → Nat) (o : Nat) (b1 : Nat → Nat) (z1 : Nat) (S : SX3) (T1 : SX6) (p2 : Int32) (rs : Int32) (h : DX3_countMarks S T1 p2 = some rs) : Met l yX3_countMarks wsX3_countMarks ({ frames := 2, cells := 0, slots := 0, locals := 46 } : Room) (va_Pc [.ref (a o), .ref (b1 z1), .int p2] (fun U => va_P D vwCl ((wX3 cy a o S) ++ (wX6 cy b1 z1 T1)) U.heap ∧ gK D cy U)) (vp_Si (fun z => z = rs)) 0 0 (fun _ => False) := by
  refine Met.ofW (cc := cX3_countMarks) (maxL := 5) (ret := (some .int)) (by decide) rfl ?_
  intro p e s m args below meth c s₁ B hml hv
  obtain ⟨rfl, hP, hG⟩ := hv
  have hx := B.exec
  have hb := B.bytes
  have hr := B.returns
  have hts := atoms_spec (ws := wsX3_countMarks) B.pre
  have hown : s.vm.findClass RX3 = some m.cls := findClass_of_methodNamed B.named
  have hlocks := B.notSynchronized
  have hK := hG.1
  have hinX3 := (by decide +kernel : ∀ w ∈ wsX30, w ∈ wsX3_countMarks)
  have hf9 := hts (.fieldLink RX3 9 "PianoRounds$Jury" "size" "I") (by decide +kernel)
  have hl := lv_entry ([.ref (a o), .ref (b1 z1), .int p2]) (n := 5) (Nat.le_of_ble_eq_true rfl)
  rw [lg_entry_eq]
  generalize (lg_sl ([.ref (a o), .ref (b1 z1), .int p2]) ++ List.replicate (5 - (lg_sl ([.ref (a o), .ref (b1 z1), .int p2])).length) Slot.unset).toArray = ls at hl ⊢
  have hl : lv_has ls 5 [(0, .ref (a o)), (1, .ref (b1 z1)), (2, .int p2)] := hl
  rw [DX3_countMarks] at h
  refine lv_iconst (v := (0 : Int32)) hx hb dX3_countMarks_0 (by decide) ?_
  refine lv_istore_n (lv' := [(3, .int (0 : Int32)), (0, .ref (a o)), (1, .ref (b1 z1)), (2, .int p2)]) hx hb dX3_countMarks_1 rfl hl (by decide) rfl (fun ls hl => ?_)
  refine lv_iconst (v := (0 : Int32)) hx hb dX3_countMarks_2 (by decide) ?_
  refine lv_istore (lv' := [(4, .int (0 : Int32)), (3, .int (0 : Int32)), (0, .ref (a o)), (1, .ref (b1 z1)), (2, .int p2)]) hx hb dX3_countMarks_3 hl (by decide) rfl (fun ls hl => ?_)
  have L11 : ∀ (c2_1 : Int32) (k2 : Int32 → Option (Int32)) (hk2 : ∀ (v3_3 : Int32) (ls : Array Slot), k2 v3_3 = some rs → lv_has ls 5 [(3, .int v3_3)] → W p l e (headSpec wsX3_countMarks ({ frames := 2, cells := 0, slots := 0, locals := 46 } : Room)).room s m ([.ref (a o), .ref (b1 z1), .int p2] : List Value).toArray below meth c s.heap [] 0 0 (MQ below (vp_Si (fun z => z = rs)) ([.ref (a o), .ref (b1 z1), .int p2] : List Value).toArray s 0 0 (fun _ => False)) (F0 m 34 ls [])) (f : Nat) (v3_5 : Int32) (v4_6 : Int32) (ls : Array Slot), DX3_countMarks_L5 S T1 c2_1 k2 f v3_5 v4_6 = some rs → lv_has ls 5 [(0, .ref (a o)), (1, .ref (b1 z1)), (2, .int c2_1), (3, .int v3_5), (4, .int v4_6)] → W p l e (headSpec wsX3_countMarks ({ frames := 2, cells := 0, slots := 0, locals := 46 } : Room)).room s m ([.ref (a o), .ref (b1 z1), .int p2] : List Value).toArray below meth c s.heap [] 0 0 (MQ below (vp_Si (fun z => z = rs)) ([.ref (a o), .ref (b1 z1), .int p2] : List Value).toArray s 0 0 (fun _ => False)) (F0 m 5 ls []) := by
    intro c2_1 k2 hk2 f
    induction f with
    | zero =>
      intro v3_5 v4_6 ls h hl
      rw [DX3_countMarks_L5] at h
      cases h
    | succ f ih =>
      intro v3_5 v4_6 ls h hl
      rw [DX3_countMarks_L5] at h
      refine lv_iload hx hb dX3_countMarks_5 (lv_at hl 4 rfl) ?_
      refine lv_aload_n hx hb dX3_countMarks_7 rfl (lv_at hl 0 rfl) ?_
      refine va_get (D := D) (ci := 3) (v := .int (gX3_size S)) (C := RX3) (T := TX3) (N := 2) hx hb hts hinX3 hown hK hP 0 rfl rfl 0 (by decide) hf9 (fun _ h9 => h9) rfl dX3_countMarks_8 ?_
      refine lv_icmp_ge (tgt := 34) hx hb dX3_countMarks_11 (by decide) (fun cc => ?_) (fun cc => ?_)
      · have h := ite_p cc h
        exact hk2 v3_5 ls h (lv_sub hl [3] rfl)
      · have h := ite_n cc h
        refine lv_aload_n hx hb dX3_countMarks_14 rfl (lv_at hl 0 rfl) ?_
        refine lv_aload_n hx hb dX3_countMarks_15 rfl (lv_at hl 1 rfl) ?_
        refine lv_iload hx hb dX3_countMarks_16 (lv_at hl 4 rfl) ?_
        refine lv_iload_n hx hb dX3_countMarks_18 rfl (lv_at hl 2 rfl) ?_
        obtain ⟨x7, e8, h⟩ := bd_some h
        refine pcV (As := [.ref (b1 z1), .int v4_6, .int c2_1]) (rest := []) (q0 := 0) (qX3_counts l D cy a o b1 z1 S T1 v4_6 c2_1 x7 e8) ⟨hx, hb, hml, hown, hts⟩ (cwV 3 hts gX3_countMarks_X3_counts rfl rfl rfl (by decide +kernel) ⟨Nat.le_of_ble_eq_true rfl, Nat.le_of_ble_eq_true rfl⟩) hG (va_P.app (P_seg (X := ([] : va_W)) (c := (wX3 cy a o S)) (Y := (wX6 cy b1 z1 T1)) hP (by simp only [List.append_assoc, List.nil_append, List.append_nil] <;> rfl)) (P_seg (X := (wX3 cy a o S)) (c := (wX6 cy b1 z1 T1)) (Y := ([] : va_W)) hP (by simp only [List.append_assoc, List.nil_append, List.append_nil] <;> rfl))) rfl rfl rfl hl.1 rfl (Nat.le_of_ble_eq_true rfl) dX3_countMarks_19 ⟨Nat.zero_le _, Nat.zero_le _⟩ ?_
        obtain ⟨j10, hj10, h⟩ := jn_elim h
        have Jj10 : ∀ (v3_9 : Int32) (ls : Array Slot), j10 v3_9 = some rs → lv_has ls 5 [(0, .ref (a o)), (1, .ref (b1 z1)), (2, .int c2_1), (3, .int v3_9), (4, .int v4_6)] → W p l e (headSpec wsX3_countMarks ({ frames := 2, cells := 0, slots := 0, locals := 46 } : Room)).room s m ([.ref (a o), .ref (b1 z1), .int p2] : List Value).toArray below meth c s.heap [] 0 0 (MQ below (vp_Si (fun z => z = rs)) ([.ref (a o), .ref (b1 z1), .int p2] : List Value).toArray s 0 0 (fun _ => False)) (F0 m 28 ls []) := by
          intro v3_9 ls h hl
          rw [hj10] at h
          refine lv_iinc (v := (v4_6 + (1 : Int32))) (lv' := [(4, .int (v4_6 + (1 : Int32))), (0, .ref (a o)), (1, .ref (b1 z1)), (2, .int c2_1), (3, .int v3_9)]) hx hb dX3_countMarks_28 hl (k := 4) rfl (by rfl) (by decide) rfl (fun ls hl => ?_)
          refine lv_goto (tgt := 5) hx hb dX3_countMarks_31 (by decide) ?_
          exact ih v3_9 (v4_6 + (1 : Int32)) ls h (lv_sub hl [1, 2, 3, 4, 0] rfl)
        refine lv_if_eq (tgt := 28) hx hb dX3_countMarks_22 (by decide) (fun cc => ?_) (fun cc => ?_)
        · have h := ite_p cc h
          exact Jj10 v3_5 ls h (lv_sub hl [0, 1, 2, 3, 4] rfl)
        · have h := ite_n cc h
          refine lv_iinc (v := (v3_5 + (1 : Int32))) (lv' := [(3, .int (v3_5 + (1 : Int32))), (0, .ref (a o)), (1, .ref (b1 z1)), (2, .int c2_1), (4, .int v4_6)]) hx hb dX3_countMarks_25 hl (k := 3) rfl (by rfl) (by decide) rfl (fun ls hl => ?_)
          exact Jj10 (v3_5 + (1 : Int32)) ls h (lv_sub hl [1, 2, 3, 0, 4] rfl)
  refine L11 p2 _ ?_ fu (0 : Int32) (0 : Int32) ls h (lv_sub hl [2, 3, 4, 1, 0] rfl)
  intro v3_4 ls h hl
  refine lv_iload_n hx hb dX3_countMarks_34 rfl (lv_at hl 0 rfl) ?_
  exact W.iret (v := v3_4) hx hb hr (fun t ht hW => ⟨v3_4, rfl, some_in h, ht⟩) (fun q hq => nomatch hq) dX3_countMarks_35
set_option maxHeartbeats 4000000 in
set_option maxRecDepth 100000 in
theorem qX0_countedMarks (l : Launch) (D : va_G) (cy : Nat → ClassId) (a : Nat → Nat) (o : Nat) (S : SX0) (p1 : Int32) (rs : Int32) (h : DX0_countedMarks S p1 = some rs) : Met l yX0_countedMarks wsX0_countedMarks ({ frames := 3, cells := 0, slots := 0, locals := 70 } : Room) (va_Pc [.ref (a o), .int p1] (fun U => va_P D vwCl (wX0 cy a o S) U.heap ∧ gK D cy U)) (vp_Si (fun z => z = rs)) 0 0 (fun _ => False) := by
  refine Met.ofW (cc := cX0_countedMarks) (maxL := 2) (ret := (some .int)) (by decide) rfl ?_
  intro p e s m args below meth c s₁ B hml hv
  obtain ⟨rfl, hP, hG⟩ := hv
  have hx := B.exec
  have hb := B.bytes
  have hr := B.returns
  have hts := atoms_spec (ws := wsX0_countedMarks) B.pre
  have hown : s.vm.findClass RX0 = some m.cls := findClass_of_methodNamed B.named
  have hlocks := B.notSynchronized
  have hK := hG.1
  have hinX0 := (by decide +kernel : ∀ w ∈ wsX00, w ∈ wsX0_countedMarks)
  have hf50 := hts (.fieldLink RX0 50 "PianoRounds$Competition" "jury" "LPianoRounds$Jury;") (by decide +kernel)
  have hl := lv_entry ([.ref (a o), .int p1]) (n := 2) (Nat.le_of_ble_eq_true rfl)
  rw [lg_entry_eq]
  generalize (lg_sl ([.ref (a o), .int p1]) ++ List.replicate (2 - (lg_sl ([.ref (a o), .int p1])).length) Slot.unset).toArray = ls at hl ⊢
  have hl : lv_has ls 2 [(0, .ref (a o)), (1, .int p1)] := hl
  rw [DX0_countedMarks] at h
  refine lv_aload_n hx hb dX0_countedMarks_0 rfl (lv_at hl 0 rfl) ?_
  refine va_get (D := D) (ci := 0) (v := .ref (a (o + 14))) (C := RX0) (T := TX0) (N := 14) hx hb hts hinX0 hown hK hP 0 rfl rfl 8 (by decide) hf50 (fun _ h9 => h9) rfl dX0_countedMarks_1 ?_
  refine lv_aload_n hx hb dX0_countedMarks_4 rfl (lv_at hl 0 rfl) ?_
  refine pcR2 (As := []) (rest := [.ref (a (o + 14))]) (q0 := 0) (qX0_openSheet l D cy a o S) ⟨hx, hb, hml, hown, hts⟩ (cwV 0 hts gX0_countedMarks_X0_openSheet rfl rfl rfl (by decide +kernel) ⟨Nat.le_of_ble_eq_true rfl, Nat.le_of_ble_eq_true rfl⟩) hG hP rfl rfl rfl hl.1 rfl (Nat.le_of_ble_eq_true rfl) dX0_countedMarks_5 ⟨Nat.zero_le _, Nat.zero_le _⟩ (fun cc => ?_) (fun cc => ?_)
  · have h := ite_p cc h
    refine lv_iload_n hx hb dX0_countedMarks_8 rfl (lv_at hl 1 rfl) ?_
    obtain ⟨x1, e2, h⟩ := bd_some h
    refine pcV (As := [.ref (a (o + 35 + 2)), .int p1]) (rest := []) (q0 := 0) (qX3_countMarks l D cy a (o + 14) a (o + 35 + 2) (gX0_jury S) (gX9_sheet (gX0_tie S)) p1 x1 e2) ⟨hx, hb, hml, hown, hts⟩ (cwV 2 hts gX0_countedMarks_X3_countMarks rfl rfl rfl (by decide +kernel) ⟨Nat.le_of_ble_eq_true rfl, Nat.le_of_ble_eq_true rfl⟩) hG (va_P.app (P_seg (X := ((hX0 a o S) ++ ((wX10 cy a (o + 1) (gX0_works S)) ++ ((wX2 cy a (o + 5) (gX0_entrants S)) ++ ((rowsW (cy 2) (cy 0) a (o + 7) 4 6 (gX0_rules S)) ++ (wX4 cy a (o + 12) (gX0_programs S))))))) (c := (wX3 cy a (o + 14) (gX0_jury S))) (Y := ((wX7 cy a (o + 23) (gX0_stage S)) ++ ((wX6 cy a (o + 26) (gX0_sheet S)) ++ ((wX9 cy a (o + 35) (gX0_tie S)) ++ ((rowsW (cy 2) (cy 0) a (o + 46) 4 12 (gX0_closedScores S)) ++ (wX1 cy a (o + 51) (gX0_cut S))))))) hP (by simp only [wX0, List.append_assoc, List.nil_append, List.append_nil] <;> rfl)) (P_seg (X := ((hX0 a o S) ++ ((wX10 cy a (o + 1) (gX0_works S)) ++ ((wX2 cy a (o + 5) (gX0_entrants S)) ++ ((rowsW (cy 2) (cy 0) a (o + 7) 4 6 (gX0_rules S)) ++ ((wX4 cy a (o + 12) (gX0_programs S)) ++ ((wX3 cy a (o + 14) (gX0_jury S)) ++ ((wX7 cy a (o + 23) (gX0_stage S)) ++ ((wX6 cy a (o + 26) (gX0_sheet S)) ++ ((hX9 a (o + 35) (gX0_tie S)) ++ (aW cy a (o + 35 + 1) 12 (gX9_tied (gX0_tie S))))))))))))) (c := (wX6 cy a (o + 35 + 2) (gX9_sheet (gX0_tie S)))) (Y := ((rowsW (cy 2) (cy 0) a (o + 46) 4 12 (gX0_closedScores S)) ++ (wX1 cy a (o + 51) (gX0_cut S)))) hP (by simp only [wX0, wX9, List.append_assoc, List.nil_append, List.append_nil] <;> rfl))) rfl rfl rfl hl.1 rfl (Nat.le_of_ble_eq_true rfl) dX0_countedMarks_9 ⟨Nat.zero_le _, Nat.zero_le _⟩ ?_
    exact W.iret (v := x1) hx hb hr (fun t ht hW => ⟨x1, rfl, some_in h, ht⟩) (fun q hq => nomatch hq) dX0_countedMarks_12
  · have h := ite_n cc h
    refine lv_iload_n hx hb dX0_countedMarks_8 rfl (lv_at hl 1 rfl) ?_
    obtain ⟨x3, e4, h⟩ := bd_some h
    refine pcV (As := [.ref (a (o + 26)), .int p1]) (rest := []) (q0 := 0) (qX3_countMarks l D cy a (o + 14) a (o + 26) (gX0_jury S) (gX0_sheet S) p1 x3 e4) ⟨hx, hb, hml, hown, hts⟩ (cwV 2 hts gX0_countedMarks_X3_countMarks rfl rfl rfl (by decide +kernel) ⟨Nat.le_of_ble_eq_true rfl, Nat.le_of_ble_eq_true rfl⟩) hG (va_P.app (P_seg (X := ((hX0 a o S) ++ ((wX10 cy a (o + 1) (gX0_works S)) ++ ((wX2 cy a (o + 5) (gX0_entrants S)) ++ ((rowsW (cy 2) (cy 0) a (o + 7) 4 6 (gX0_rules S)) ++ (wX4 cy a (o + 12) (gX0_programs S))))))) (c := (wX3 cy a (o + 14) (gX0_jury S))) (Y := ((wX7 cy a (o + 23) (gX0_stage S)) ++ ((wX6 cy a (o + 26) (gX0_sheet S)) ++ ((wX9 cy a (o + 35) (gX0_tie S)) ++ ((rowsW (cy 2) (cy 0) a (o + 46) 4 12 (gX0_closedScores S)) ++ (wX1 cy a (o + 51) (gX0_cut S))))))) hP (by simp only [wX0, List.append_assoc, List.nil_append, List.append_nil] <;> rfl)) (P_seg (X := ((hX0 a o S) ++ ((wX10 cy a (o + 1) (gX0_works S)) ++ ((wX2 cy a (o + 5) (gX0_entrants S)) ++ ((rowsW (cy 2) (cy 0) a (o + 7) 4 6 (gX0_rules S)) ++ ((wX4 cy a (o + 12) (gX0_programs S)) ++ ((wX3 cy a (o + 14) (gX0_jury S)) ++ (wX7 cy a (o + 23) (gX0_stage S))))))))) (c := (wX6 cy a (o + 26) (gX0_sheet S))) (Y := ((wX9 cy a (o + 35) (gX0_tie S)) ++ ((rowsW (cy 2) (cy 0) a (o + 46) 4 12 (gX0_closedScores S)) ++ (wX1 cy a (o + 51) (gX0_cut S))))) hP (by simp only [wX0, List.append_assoc, List.nil_append, List.append_nil] <;> rfl))) rfl rfl rfl hl.1 rfl (Nat.le_of_ble_eq_true rfl) dX0_countedMarks_9 ⟨Nat.zero_le _, Nat.zero_le _⟩ ?_
    exact W.iret (v := x3) hx hb hr (fun t ht hW => ⟨x3, rfl, some_in h, ht⟩) (fun q hq => nomatch hq) dX0_countedMarks_12
set_option maxHeartbeats 4000000 in
set_option maxRecDepth 100000 in
theorem qX3_meanIf (l : Launch) (D : va_G) (cy : Nat → ClassId) (a : Nat → Nat) (o : Nat) (b1 : Nat → Nat) (z1 : Nat) (S : SX3) (T1 : SX6) (p2 : Int32) (p3 : Int32) (p4 : Int32) (rs : Int32) (h : DX3_meanIf S T1 p2 p3 p4 = some rs) : Met l yX3_meanIf wsX3_meanIf ({ frames := 1, cells := 0, slots := 0, locals := 23 } : Room) (va_Pc [.ref (a o), .ref (b1 z1), .int p2, .int p3, .int p4] (fun U => va_P D vwCl ((wX3 cy a o S) ++ (wX6 cy b1 z1 T1)) U.heap ∧ gK D cy U)) (vp_Si (fun z => z = rs)) 0 0 (fun _ => False) := by
  refine Met.ofW (cc := cX3_meanIf) (maxL := 11) (ret := (some .int)) (by decide) rfl ?_
  intro p e s m args below meth c s₁ B hml hv
  obtain ⟨rfl, hP, hG⟩ := hv
  have hx := B.exec
  have hb := B.bytes
  have hr := B.returns
  have hts := atoms_spec (ws := wsX3_meanIf) B.pre
  have hown : s.vm.findClass RX3 = some m.cls := findClass_of_methodNamed B.named
  have hlocks := B.notSynchronized
  have hK := hG.1
  have hinX3 := (by decide +kernel : ∀ w ∈ wsX30, w ∈ wsX3_meanIf)
  have hf9 := hts (.fieldLink RX3 9 "PianoRounds$Jury" "size" "I") (by decide +kernel)
  have hm38 := hts (.methodLink RX3 38 Lib.Math.min.name) (by decide +kernel)
  have hms_min := hts (.static Lib.Math.min.name) (by decide +kernel)
  have hmi := hts (.initialized "java/lang/Math") (by decide +kernel)
  have hmc_min := hts (.code Lib.Math.min.name Lib.Math.min.code 2 (some .int)) (by decide +kernel)
  have hm43 := hts (.methodLink RX3 43 Lib.Math.max.name) (by decide +kernel)
  have hms_max := hts (.static Lib.Math.max.name) (by decide +kernel)
  have hmc_max := hts (.code Lib.Math.max.name Lib.Math.max.code 2 (some .int)) (by decide +kernel)
  have hl := lv_entry ([.ref (a o), .ref (b1 z1), .int p2, .int p3, .int p4]) (n := 11) (Nat.le_of_ble_eq_true rfl)
  rw [lg_entry_eq]
  generalize (lg_sl ([.ref (a o), .ref (b1 z1), .int p2, .int p3, .int p4]) ++ List.replicate (11 - (lg_sl ([.ref (a o), .ref (b1 z1), .int p2, .int p3, .int p4])).length) Slot.unset).toArray = ls at hl ⊢
  have hl : lv_has ls 11 [(0, .ref (a o)), (1, .ref (b1 z1)), (2, .int p2), (3, .int p3), (4, .int p4)] := hl
  rw [DX3_meanIf] at h
  refine lv_iconst (v := (0 : Int32)) hx hb dX3_meanIf_0 (by decide) ?_
  refine lv_istore (lv' := [(5, .int (0 : Int32)), (0, .ref (a o)), (1, .ref (b1 z1)), (2, .int p2), (3, .int p3), (4, .int p4)]) hx hb dX3_meanIf_1 hl (by decide) rfl (fun ls hl => ?_)
  refine lv_iconst (v := (0 : Int32)) hx hb dX3_meanIf_3 (by decide) ?_
  refine lv_istore (lv' := [(6, .int (0 : Int32)), (5, .int (0 : Int32)), (0, .ref (a o)), (1, .ref (b1 z1)), (2, .int p2), (3, .int p3), (4, .int p4)]) hx hb dX3_meanIf_4 hl (by decide) rfl (fun ls hl => ?_)
  refine lv_bipush (v := (100 : Int32)) hx hb dX3_meanIf_6 (by decide) ?_
  refine lv_istore (lv' := [(7, .int (100 : Int32)), (6, .int (0 : Int32)), (5, .int (0 : Int32)), (0, .ref (a o)), (1, .ref (b1 z1)), (2, .int p2), (3, .int p3), (4, .int p4)]) hx hb dX3_meanIf_8 hl (by decide) rfl (fun ls hl => ?_)
  refine lv_iconst (v := (0 : Int32)) hx hb dX3_meanIf_10 (by decide) ?_
  refine lv_istore (lv' := [(8, .int (0 : Int32)), (7, .int (100 : Int32)), (6, .int (0 : Int32)), (5, .int (0 : Int32)), (0, .ref (a o)), (1, .ref (b1 z1)), (2, .int p2), (3, .int p3), (4, .int p4)]) hx hb dX3_meanIf_11 hl (by decide) rfl (fun ls hl => ?_)
  refine lv_iconst (v := (0 : Int32)) hx hb dX3_meanIf_13 (by decide) ?_
  refine lv_istore (lv' := [(9, .int (0 : Int32)), (8, .int (0 : Int32)), (7, .int (100 : Int32)), (6, .int (0 : Int32)), (5, .int (0 : Int32)), (0, .ref (a o)), (1, .ref (b1 z1)), (2, .int p2), (3, .int p3), (4, .int p4)]) hx hb dX3_meanIf_14 hl (by decide) rfl (fun ls hl => ?_)
  have L35 : ∀ (c2_1 : Int32) (c3_2 : Int32) (c4_3 : Int32) (k4 : Int32 → Int32 → Int32 → Int32 → Option (Int32)) (hk4 : ∀ (v5_5 : Int32) (v6_6 : Int32) (v7_7 : Int32) (v8_8 : Int32) (ls : Array Slot), k4 v5_5 v6_6 v7_7 v8_8 = some rs → lv_has ls 11 [(5, .int v5_5), (6, .int v6_6), (7, .int v7_7), (8, .int v8_8)] → W p l e (headSpec wsX3_meanIf ({ frames := 1, cells := 0, slots := 0, locals := 23 } : Room)).room s m ([.ref (a o), .ref (b1 z1), .int p2, .int p3, .int p4] : List Value).toArray below meth c s.heap [] 0 0 (MQ below (vp_Si (fun z => z = rs)) ([.ref (a o), .ref (b1 z1), .int p2, .int p3, .int p4] : List Value).toArray s 0 0 (fun _ => False)) (F0 m 94 ls [])) (f : Nat) (v5_19 : Int32) (v6_20 : Int32) (v7_21 : Int32) (v8_22 : Int32) (v9_23 : Int32) (ls : Array Slot), DX3_meanIf_L16 S T1 c2_1 c3_2 c4_3 k4 f v5_19 v6_20 v7_21 v8_22 v9_23 = some rs → lv_has ls 11 [(0, .ref (a o)), (1, .ref (b1 z1)), (2, .int c2_1), (3, .int c3_2), (4, .int c4_3), (5, .int v5_19), (6, .int v6_20), (7, .int v7_21), (8, .int v8_22), (9, .int v9_23)] → W p l e (headSpec wsX3_meanIf ({ frames := 1, cells := 0, slots := 0, locals := 23 } : Room)).room s m ([.ref (a o), .ref (b1 z1), .int p2, .int p3, .int p4] : List Value).toArray below meth c s.heap [] 0 0 (MQ below (vp_Si (fun z => z = rs)) ([.ref (a o), .ref (b1 z1), .int p2, .int p3, .int p4] : List Value).toArray s 0 0 (fun _ => False)) (F0 m 16 ls []) := by
    intro c2_1 c3_2 c4_3 k4 hk4 f
    induction f with
    | zero =>
      intro v5_19 v6_20 v7_21 v8_22 v9_23 ls h hl
      rw [DX3_meanIf_L16] at h
      cases h
    | succ f ih =>
      intro v5_19 v6_20 v7_21 v8_22 v9_23 ls h hl
      rw [DX3_meanIf_L16] at h
      refine lv_iload hx hb dX3_meanIf_16 (lv_at hl 9 rfl) ?_
      refine lv_aload_n hx hb dX3_meanIf_18 rfl (lv_at hl 0 rfl) ?_
      refine va_get (D := D) (ci := 3) (v := .int (gX3_size S)) (C := RX3) (T := TX3) (N := 2) hx hb hts hinX3 hown hK hP 0 rfl rfl 0 (by decide) hf9 (fun _ h9 => h9) rfl dX3_meanIf_19 ?_
      refine lv_icmp_ge (tgt := 94) hx hb dX3_meanIf_22 (by decide) (fun cc => ?_) (fun cc => ?_)
      · have h := ite_p cc h
        exact hk4 v5_19 v6_20 v7_21 v8_22 ls h (lv_sub hl [5, 6, 7, 8] rfl)
      · have h := ite_n cc h
        refine lv_iload hx hb dX3_meanIf_25 (lv_at hl 9 rfl) ?_
        refine lv_iload_n hx hb dX3_meanIf_27 rfl (lv_at hl 3 rfl) ?_
        obtain ⟨j25, hj25, h⟩ := jn_elim h
        have Jj25 : ∀ (x24 : Int32) (ls : Array Slot), j25 x24 = some rs → lv_has ls 11 [(0, .ref (a o)), (1, .ref (b1 z1)), (2, .int c2_1), (3, .int c3_2), (4, .int c4_3), (5, .int v5_19), (6, .int v6_20), (7, .int v7_21), (8, .int v8_22), (9, .int v9_23)] → W p l e (headSpec wsX3_meanIf ({ frames := 1, cells := 0, slots := 0, locals := 23 } : Room)).room s m ([.ref (a o), .ref (b1 z1), .int p2, .int p3, .int p4] : List Value).toArray below meth c s.heap [] 0 0 (MQ below (vp_Si (fun z => z = rs)) ([.ref (a o), .ref (b1 z1), .int p2, .int p3, .int p4] : List Value).toArray s 0 0 (fun _ => False)) (F0 m 43 ls [.int x24]) := by
          intro x24 ls h hl
          rw [hj25] at h
          refine lv_istore (lv' := [(10, .int x24), (0, .ref (a o)), (1, .ref (b1 z1)), (2, .int c2_1), (3, .int c3_2), (4, .int c4_3), (5, .int v5_19), (6, .int v6_20), (7, .int v7_21), (8, .int v8_22), (9, .int v9_23)]) hx hb dX3_meanIf_43 hl (by decide) rfl (fun ls hl => ?_)
          refine lv_iload hx hb dX3_meanIf_45 (lv_at hl 0 rfl) ?_
          obtain ⟨j30, hj30, h⟩ := jn_elim h
          have Jj30 : ∀ (v5_26 : Int32) (v6_27 : Int32) (v7_28 : Int32) (v8_29 : Int32) (ls : Array Slot), j30 v5_26 v6_27 v7_28 v8_29 = some rs → lv_has ls 11 [(0, .ref (a o)), (1, .ref (b1 z1)), (2, .int c2_1), (3, .int c3_2), (4, .int c4_3), (5, .int v5_26), (6, .int v6_27), (7, .int v7_28), (8, .int v8_29), (9, .int v9_23)] → W p l e (headSpec wsX3_meanIf ({ frames := 1, cells := 0, slots := 0, locals := 23 } : Room)).room s m ([.ref (a o), .ref (b1 z1), .int p2, .int p3, .int p4] : List Value).toArray below meth c s.heap [] 0 0 (MQ below (vp_Si (fun z => z = rs)) ([.ref (a o), .ref (b1 z1), .int p2, .int p3, .int p4] : List Value).toArray s 0 0 (fun _ => False)) (F0 m 88 ls []) := by
            intro v5_26 v6_27 v7_28 v8_29 ls h hl
            rw [hj30] at h
            refine lv_iinc (v := (v9_23 + (1 : Int32))) (lv' := [(9, .int (v9_23 + (1 : Int32))), (0, .ref (a o)), (1, .ref (b1 z1)), (2, .int c2_1), (3, .int c3_2), (4, .int c4_3), (5, .int v5_26), (6, .int v6_27), (7, .int v7_28), (8, .int v8_29)]) hx hb dX3_meanIf_88 hl (k := 9) rfl (by rfl) (by decide) rfl (fun ls hl => ?_)
            refine lv_goto (tgt := 16) hx hb dX3_meanIf_91 (by decide) ?_
            exact ih v5_26 v6_27 v7_28 v8_29 (v9_23 + (1 : Int32)) ls h (lv_sub hl [1, 2, 3, 4, 5, 6, 7, 8, 9, 0] rfl)
          refine lv_if_lt (tgt := 88) hx hb dX3_meanIf_47 (by decide) (fun cc => ?_) (fun cc => ?_)
          · have h := ite_p cc h
            exact Jj30 v5_19 v6_20 v7_21 v8_22 ls h (lv_sub hl [1, 2, 3, 4, 5, 6, 7, 8, 9, 10] rfl)
          · have h := ite_n cc h
            refine lv_aload_n hx hb dX3_meanIf_50 rfl (lv_at hl 1 rfl) ?_
            refine lv_iload hx hb dX3_meanIf_51 (lv_at hl 10 rfl) ?_
            refine lv_iload_n hx hb dX3_meanIf_53 rfl (lv_at hl 3 rfl) ?_
            obtain ⟨x31, e32, h⟩ := bd_some h
            refine pcV (As := [.int v9_23, .int c2_1]) (rest := []) (q0 := 0) (qX3_isBarred l D cy a o S v9_23 c2_1 x31 e32) ⟨hx, hb, hml, hown, hts⟩ (cwV 2 hts gX3_meanIf_X3_isBarred rfl rfl rfl (by decide +kernel) ⟨Nat.le_of_ble_eq_true rfl, Nat.le_of_ble_eq_true rfl⟩) hG (P_seg (X := ([] : va_W)) (c := (wX3 cy a o S)) (Y := (wX6 cy b1 z1 T1)) hP (by simp only [List.append_assoc, List.nil_append, List.append_nil] <;> rfl)) rfl rfl rfl hl.1 rfl (Nat.le_of_ble_eq_true rfl) dX3_meanIf_54 ⟨Nat.zero_le _, Nat.zero_le _⟩ ?_
            refine lv_if_ne (tgt := 88) hx hb dX3_meanIf_57 (by decide) (fun cc => ?_) (fun cc => ?_)
            · have h := ite_n cc h
              exact Jj30 v5_19 v6_20 v7_21 v8_22 ls h (lv_sub hl [1, 2, 3, 4, 5, 6, 7, 8, 9, 10] rfl)
            · have h := ite_p cc h
              refine lv_iinc (v := (v5_19 + (1 : Int32))) (lv' := [(5, .int (v5_19 + (1 : Int32))), (10, .int x24), (0, .ref (a o)), (1, .ref (b1 z1)), (2, .int c2_1), (3, .int c3_2), (4, .int c4_3), (6, .int v6_20), (7, .int v7_21), (8, .int v8_22), (9, .int v9_23)]) hx hb dX3_meanIf_60 hl (k := 6) rfl (by rfl) (by decide) rfl (fun ls hl => ?_)
              refine lv_iload hx hb dX3_meanIf_63 (lv_at hl 7 rfl) ?_
              refine lv_iload hx hb dX3_meanIf_65 (lv_at hl 1 rfl) ?_
              refine lv_iadd hx hb dX3_meanIf_67 ?_
              refine lv_istore (lv' := [(6, .int (v6_20 + x24)), (5, .int (v5_19 + (1 : Int32))), (10, .int x24), (0, .ref (a o)), (1, .ref (b1 z1)), (2, .int c2_1), (3, .int c3_2), (4, .int c4_3), (7, .int v7_21), (8, .int v8_22), (9, .int v9_23)]) hx hb dX3_meanIf_68 hl (by decide) rfl (fun ls hl => ?_)
              refine lv_iload hx hb dX3_meanIf_70 (lv_at hl 8 rfl) ?_
              refine lv_iload hx hb dX3_meanIf_72 (lv_at hl 2 rfl) ?_
              refine va_mmin hx hb (hml.trans hl.1.symm) hown hm38 hms_min hmi hmc_min (Nat.le_of_ble_eq_true rfl) (Nat.le_of_ble_eq_true rfl) (Nat.zero_le _) (Nat.zero_le _) dX3_meanIf_74 ?_
              refine lv_istore (lv' := [(7, .int (if x24 < v7_21 then x24 else v7_21)), (6, .int (v6_20 + x24)), (5, .int (v5_19 + (1 : Int32))), (10, .int x24), (0, .ref (a o)), (1, .ref (b1 z1)), (2, .int c2_1), (3, .int c3_2), (4, .int c4_3), (8, .int v8_22), (9, .int v9_23)]) hx hb dX3_meanIf_77 hl (by decide) rfl (fun ls hl => ?_)
              refine lv_iload hx hb dX3_meanIf_79 (lv_at hl 9 rfl) ?_
              refine lv_iload hx hb dX3_meanIf_81 (lv_at hl 3 rfl) ?_
              refine va_mmax hx hb (hml.trans hl.1.symm) hown hm43 hms_max hmi hmc_max (Nat.le_of_ble_eq_true rfl) (Nat.le_of_ble_eq_true rfl) (Nat.zero_le _) (Nat.zero_le _) dX3_meanIf_83 ?_
              refine lv_istore (lv' := [(8, .int (if v8_22 < x24 then x24 else v8_22)), (7, .int (if x24 < v7_21 then x24 else v7_21)), (6, .int (v6_20 + x24)), (5, .int (v5_19 + (1 : Int32))), (10, .int x24), (0, .ref (a o)), (1, .ref (b1 z1)), (2, .int c2_1), (3, .int c3_2), (4, .int c4_3), (9, .int v9_23)]) hx hb dX3_meanIf_86 hl (by decide) rfl (fun ls hl => ?_)
              exact Jj30 (v5_19 + (1 : Int32)) (v6_20 + x24) (if x24 < v7_21 then x24 else v7_21) (if v8_22 < x24 then x24 else v8_22) ls h (lv_sub hl [5, 6, 7, 8, 9, 3, 2, 1, 0, 10] rfl)
        refine lv_icmp_ne (tgt := 36) hx hb dX3_meanIf_28 (by decide) (fun cc => ?_) (fun cc => ?_)
        · have h := ite_n cc h
          refine lv_aload_n hx hb dX3_meanIf_36 rfl (lv_at hl 1 rfl) ?_
          refine lv_iload hx hb dX3_meanIf_37 (lv_at hl 9 rfl) ?_
          refine lv_iload_n hx hb dX3_meanIf_39 rfl (lv_at hl 2 rfl) ?_
          obtain ⟨x33, e34, h⟩ := bd_some h
          refine pcV (As := [.int v9_23, .int c2_1]) (rest := []) (q0 := 0) (qX6_at l D cy b1 z1 T1 v9_23 c2_1 x33 e34) ⟨hx, hb, hml, hown, hts⟩ (cwV 2 hts gX3_meanIf_X6_at rfl rfl rfl (by decide +kernel) ⟨Nat.le_of_ble_eq_true rfl, Nat.le_of_ble_eq_true rfl⟩) hG (P_seg (X := (wX3 cy a o S)) (c := (wX6 cy b1 z1 T1)) (Y := ([] : va_W)) hP (by simp only [List.append_assoc, List.nil_append, List.append_nil] <;> rfl)) rfl rfl rfl hl.1 rfl (Nat.le_of_ble_eq_true rfl) dX3_meanIf_40 ⟨Nat.zero_le _, Nat.zero_le _⟩ ?_
          exact Jj25 x33 ls h (lv_sub hl [0, 1, 2, 3, 4, 5, 6, 7, 8, 9] rfl)
        · have h := ite_p cc h
          refine lv_iload hx hb dX3_meanIf_31 (lv_at hl 4 rfl) ?_
          refine lv_goto (tgt := 43) hx hb dX3_meanIf_33 (by decide) ?_
          exact Jj25 c4_3 ls h (lv_sub hl [0, 1, 2, 3, 4, 5, 6, 7, 8, 9] rfl)
  refine L35 p2 p3 p4 _ ?_ fu (0 : Int32) (0 : Int32) (100 : Int32) (0 : Int32) (0 : Int32) ls h (lv_sub hl [5, 6, 7, 8, 9, 4, 3, 2, 1, 0] rfl)
  intro v5_9 v6_10 v7_11 v8_12 ls h hl
  refine lv_iload hx hb dX3_meanIf_94 (lv_at hl 0 rfl) ?_
  refine lv_iconst (v := (4 : Int32)) hx hb dX3_meanIf_96 (by decide) ?_
  obtain ⟨j15, hj15, h⟩ := jn_elim h
  have Jj15 : ∀ (v5_13 : Int32) (v6_14 : Int32) (ls : Array Slot), j15 v5_13 v6_14 = some rs → lv_has ls 11 [(5, .int v5_13), (6, .int v6_14)] → W p l e (headSpec wsX3_meanIf ({ frames := 1, cells := 0, slots := 0, locals := 23 } : Room)).room s m ([.ref (a o), .ref (b1 z1), .int p2, .int p3, .int p4] : List Value).toArray below meth c s.heap [] 0 0 (MQ below (vp_Si (fun z => z = rs)) ([.ref (a o), .ref (b1 z1), .int p2, .int p3, .int p4] : List Value).toArray s 0 0 (fun _ => False)) (F0 m 113 ls []) := by
    intro v5_13 v6_14 ls h hl
    rw [hj15] at h
    refine lv_iload hx hb dX3_meanIf_113 (lv_at hl 0 rfl) ?_
    obtain ⟨j17, hj17, h⟩ := jn_elim h
    have Jj17 : ∀ (x16 : Int32) (ls : Array Slot), j17 x16 = some rs → lv_has ls 11 [] → W p l e (headSpec wsX3_meanIf ({ frames := 1, cells := 0, slots := 0, locals := 23 } : Room)).room s m ([.ref (a o), .ref (b1 z1), .int p2, .int p3, .int p4] : List Value).toArray below meth c s.heap [] 0 0 (MQ below (vp_Si (fun z => z = rs)) ([.ref (a o), .ref (b1 z1), .int p2, .int p3, .int p4] : List Value).toArray s 0 0 (fun _ => False)) (F0 m 131 ls [.int x16]) := by
      intro x16 ls h hl
      rw [hj17] at h
      exact W.iret (v := x16) hx hb hr (fun t ht hW => ⟨x16, rfl, some_in h, ht⟩) (fun q hq => nomatch hq) dX3_meanIf_131
    refine lv_if_le (tgt := 130) hx hb dX3_meanIf_115 (by decide) (fun cc => ?_) (fun cc => ?_)
    · have h := ite_p cc h
      refine lv_iconst (v := (-1 : Int32)) hx hb dX3_meanIf_130 (by decide) ?_
      exact Jj17 (-1 : Int32) ls h (lv_sub hl [] rfl)
    · have h := ite_n cc h
      refine lv_iload hx hb dX3_meanIf_118 (lv_at hl 1 rfl) ?_
      refine lv_sipush (v := (1000 : Int32)) hx hb dX3_meanIf_120 (by decide) ?_
      refine lv_imul hx hb dX3_meanIf_123 ?_
      refine lv_iload hx hb dX3_meanIf_124 (lv_at hl 0 rfl) ?_
      obtain ⟨g18, h⟩ := gz_some h
      refine lv_idiv hx hb dX3_meanIf_126 g18 ?_
      refine lv_goto (tgt := 131) hx hb dX3_meanIf_127 (by decide) ?_
      exact Jj17 ((v6_14 * (1000 : Int32)) / v5_13) ls h (lv_sub hl [] rfl)
  refine lv_icmp_lt (tgt := 113) hx hb dX3_meanIf_97 (by decide) (fun cc => ?_) (fun cc => ?_)
  · have h := ite_p cc h
    exact Jj15 v5_9 v6_10 ls h (lv_sub hl [0, 1] rfl)
  · have h := ite_n cc h
    refine lv_iinc (v := (v5_9 + (-2 : Int32))) (lv' := [(5, .int (v5_9 + (-2 : Int32))), (6, .int v6_10), (7, .int v7_11), (8, .int v8_12)]) hx hb dX3_meanIf_100 hl (k := 0) rfl (by rfl) (by decide) rfl (fun ls hl => ?_)
    refine lv_iload hx hb dX3_meanIf_103 (lv_at hl 1 rfl) ?_
    refine lv_iload hx hb dX3_meanIf_105 (lv_at hl 2 rfl) ?_
    refine lv_iload hx hb dX3_meanIf_107 (lv_at hl 3 rfl) ?_
    refine lv_iadd hx hb dX3_meanIf_109 ?_
    refine lv_isub hx hb dX3_meanIf_110 ?_
    refine lv_istore (lv' := [(6, .int (v6_10 - (v7_11 + v8_12))), (5, .int (v5_9 + (-2 : Int32))), (7, .int v7_11), (8, .int v8_12)]) hx hb dX3_meanIf_111 hl (by decide) rfl (fun ls hl => ?_)
    exact Jj15 (v5_9 + (-2 : Int32)) (v6_10 - (v7_11 + v8_12)) ls h (lv_sub hl [1, 0] rfl)
set_option maxHeartbeats 4000000 in
set_option maxRecDepth 100000 in
theorem qX0_scoreWith (l : Launch) (D : va_G) (cy : Nat → ClassId) (a : Nat → Nat) (o : Nat) (S : SX0) (p1 : Int32) (p2 : Int32) (p3 : Int32) (rs : Int32) (h : DX0_scoreWith S p1 p2 p3 = some rs) : Met l yX0_scoreWith wsX0_scoreWith ({ frames := 2, cells := 0, slots := 0, locals := 53 } : Room) (va_Pc [.ref (a o), .int p1, .int p2, .int p3] (fun U => va_P D vwCl (wX0 cy a o S) U.heap ∧ gK D cy U)) (vp_Si (fun z => z = rs)) 0 0 (fun _ => False) := by
  refine Met.ofW (cc := cX0_scoreWith) (maxL := 6) (ret := (some .int)) (by decide) rfl ?_
  intro p e s m args below meth c s₁ B hml hv
  obtain ⟨rfl, hP, hG⟩ := hv
  have hx := B.exec
  have hb := B.bytes
  have hr := B.returns
  have hts := atoms_spec (ws := wsX0_scoreWith) B.pre
  have hown : s.vm.findClass RX0 = some m.cls := findClass_of_methodNamed B.named
  have hlocks := B.notSynchronized
  have hK := hG.1
  have hinX0 := (by decide +kernel : ∀ w ∈ wsX00, w ∈ wsX0_scoreWith)
  have hf50 := hts (.fieldLink RX0 50 "PianoRounds$Competition" "jury" "LPianoRounds$Jury;") (by decide +kernel)
  have hf64 := hts (.fieldLink RX0 64 "PianoRounds$Competition" "sheet" "LPianoRounds$Sheet;") (by decide +kernel)
  have hf57 := hts (.fieldLink RX0 57 "PianoRounds$Competition" "stage" "LPianoRounds$Stage;") (by decide +kernel)
  have hm199 := hts (.methodLink RX0 199 Lib.Math.max.name) (by decide +kernel)
  have hms_max := hts (.static Lib.Math.max.name) (by decide +kernel)
  have hmi := hts (.initialized "java/lang/Math") (by decide +kernel)
  have hmc_max := hts (.code Lib.Math.max.name Lib.Math.max.code 2 (some .int)) (by decide +kernel)
  have hf18 := hts (.fieldLink RX0 18 "PianoRounds$Competition" "penalty" "I") (by decide +kernel)
  have hl := lv_entry ([.ref (a o), .int p1, .int p2, .int p3]) (n := 6) (Nat.le_of_ble_eq_true rfl)
  rw [lg_entry_eq]
  generalize (lg_sl ([.ref (a o), .int p1, .int p2, .int p3]) ++ List.replicate (6 - (lg_sl ([.ref (a o), .int p1, .int p2, .int p3])).length) Slot.unset).toArray = ls at hl ⊢
  have hl : lv_has ls 6 [(0, .ref (a o)), (1, .int p1), (2, .int p2), (3, .int p3)] := hl
  rw [DX0_scoreWith] at h
  refine lv_aload_n hx hb dX0_scoreWith_0 rfl (lv_at hl 0 rfl) ?_
  refine va_get (D := D) (ci := 0) (v := .ref (a (o + 14))) (C := RX0) (T := TX0) (N := 14) hx hb hts hinX0 hown hK hP 0 rfl rfl 8 (by decide) hf50 (fun _ h9 => h9) rfl dX0_scoreWith_1 ?_
  refine lv_aload_n hx hb dX0_scoreWith_4 rfl (lv_at hl 0 rfl) ?_
  refine va_get (D := D) (ci := 0) (v := .ref (a (o + 26))) (C := RX0) (T := TX0) (N := 14) hx hb hts hinX0 hown hK hP 0 rfl rfl 10 (by decide) hf64 (fun _ h9 => h9) rfl dX0_scoreWith_5 ?_
  refine lv_iload_n hx hb dX0_scoreWith_8 rfl (lv_at hl 2 rfl) ?_
  refine lv_iload_n hx hb dX0_scoreWith_9 rfl (lv_at hl 1 rfl) ?_
  refine lv_iload_n hx hb dX0_scoreWith_10 rfl (lv_at hl 3 rfl) ?_
  obtain ⟨x1, e2, h⟩ := bd_some h
  refine pcV (As := [.ref (a (o + 26)), .int p2, .int p1, .int p3]) (rest := []) (q0 := 0) (qX3_meanIf l D cy a (o + 14) a (o + 26) (gX0_jury S) (gX0_sheet S) p2 p1 p3 x1 e2) ⟨hx, hb, hml, hown, hts⟩ (cwV 4 hts gX0_scoreWith_X3_meanIf rfl rfl rfl (by decide +kernel) ⟨Nat.le_of_ble_eq_true rfl, Nat.le_of_ble_eq_true rfl⟩) hG (va_P.app (P_seg (X := ((hX0 a o S) ++ ((wX10 cy a (o + 1) (gX0_works S)) ++ ((wX2 cy a (o + 5) (gX0_entrants S)) ++ ((rowsW (cy 2) (cy 0) a (o + 7) 4 6 (gX0_rules S)) ++ (wX4 cy a (o + 12) (gX0_programs S))))))) (c := (wX3 cy a (o + 14) (gX0_jury S))) (Y := ((wX7 cy a (o + 23) (gX0_stage S)) ++ ((wX6 cy a (o + 26) (gX0_sheet S)) ++ ((wX9 cy a (o + 35) (gX0_tie S)) ++ ((rowsW (cy 2) (cy 0) a (o + 46) 4 12 (gX0_closedScores S)) ++ (wX1 cy a (o + 51) (gX0_cut S))))))) hP (by simp only [wX0, List.append_assoc, List.nil_append, List.append_nil] <;> rfl)) (P_seg (X := ((hX0 a o S) ++ ((wX10 cy a (o + 1) (gX0_works S)) ++ ((wX2 cy a (o + 5) (gX0_entrants S)) ++ ((rowsW (cy 2) (cy 0) a (o + 7) 4 6 (gX0_rules S)) ++ ((wX4 cy a (o + 12) (gX0_programs S)) ++ ((wX3 cy a (o + 14) (gX0_jury S)) ++ (wX7 cy a (o + 23) (gX0_stage S))))))))) (c := (wX6 cy a (o + 26) (gX0_sheet S))) (Y := ((wX9 cy a (o + 35) (gX0_tie S)) ++ ((rowsW (cy 2) (cy 0) a (o + 46) 4 12 (gX0_closedScores S)) ++ (wX1 cy a (o + 51) (gX0_cut S))))) hP (by simp only [wX0, List.append_assoc, List.nil_append, List.append_nil] <;> rfl))) rfl rfl rfl hl.1 rfl (Nat.le_of_ble_eq_true rfl) dX0_scoreWith_11 ⟨Nat.zero_le _, Nat.zero_le _⟩ ?_
  refine lv_istore (lv' := [(4, .int x1), (0, .ref (a o)), (1, .int p1), (2, .int p2), (3, .int p3)]) hx hb dX0_scoreWith_14 hl (by decide) rfl (fun ls hl => ?_)
  refine lv_iload hx hb dX0_scoreWith_16 (lv_at hl 0 rfl) ?_
  refine lv_iconst (v := (-1 : Int32)) hx hb dX0_scoreWith_18 (by decide) ?_
  refine lv_icmp_ne (tgt := 24) hx hb dX0_scoreWith_19 (by decide) (fun cc => ?_) (fun cc => ?_)
  · have h := ite_n cc h
    refine lv_iconst (v := (0 : Int32)) hx hb dX0_scoreWith_24 (by decide) ?_
    refine lv_aload_n hx hb dX0_scoreWith_25 rfl (lv_at hl 1 rfl) ?_
    refine va_get (D := D) (ci := 0) (v := .ref (a (o + 23))) (C := RX0) (T := TX0) (N := 14) hx hb hts hinX0 hown hK hP 0 rfl rfl 9 (by decide) hf57 (fun _ h9 => h9) rfl dX0_scoreWith_26 ?_
    refine lv_iload_n hx hb dX0_scoreWith_29 rfl (lv_at hl 3 rfl) ?_
    obtain ⟨x3, e4, h⟩ := bd_some h
    refine pcV (As := [.int p2]) (rest := [.int (0 : Int32)]) (q0 := 0) (qX7_slipsOf l D cy a (o + 23) (gX0_stage S) p2 x3 e4) ⟨hx, hb, hml, hown, hts⟩ (cwV 1 hts gX0_scoreWith_X7_slipsOf rfl rfl rfl (by decide +kernel) ⟨Nat.le_of_ble_eq_true rfl, Nat.le_of_ble_eq_true rfl⟩) hG (P_seg (X := ((hX0 a o S) ++ ((wX10 cy a (o + 1) (gX0_works S)) ++ ((wX2 cy a (o + 5) (gX0_entrants S)) ++ ((rowsW (cy 2) (cy 0) a (o + 7) 4 6 (gX0_rules S)) ++ ((wX4 cy a (o + 12) (gX0_programs S)) ++ (wX3 cy a (o + 14) (gX0_jury S)))))))) (c := (wX7 cy a (o + 23) (gX0_stage S))) (Y := ((wX6 cy a (o + 26) (gX0_sheet S)) ++ ((wX9 cy a (o + 35) (gX0_tie S)) ++ ((rowsW (cy 2) (cy 0) a (o + 46) 4 12 (gX0_closedScores S)) ++ (wX1 cy a (o + 51) (gX0_cut S)))))) hP (by simp only [wX0, List.append_assoc, List.nil_append, List.append_nil] <;> rfl)) rfl rfl rfl hl.1 rfl (Nat.le_of_ble_eq_true rfl) dX0_scoreWith_30 ⟨Nat.zero_le _, Nat.zero_le _⟩ ?_
    refine va_mmax hx hb (hml.trans hl.1.symm) hown hm199 hms_max hmi hmc_max (Nat.le_of_ble_eq_true rfl) (Nat.le_of_ble_eq_true rfl) (Nat.zero_le _) (Nat.zero_le _) dX0_scoreWith_33 ?_
    refine lv_istore (lv' := [(5, .int (if (0 : Int32) < x3 then x3 else (0 : Int32))), (4, .int x1), (0, .ref (a o)), (1, .int p1), (2, .int p2), (3, .int p3)]) hx hb dX0_scoreWith_36 hl (by decide) rfl (fun ls hl => ?_)
    refine lv_iconst (v := (0 : Int32)) hx hb dX0_scoreWith_38 (by decide) ?_
    refine lv_iload hx hb dX0_scoreWith_39 (lv_at hl 1 rfl) ?_
    refine lv_aload_n hx hb dX0_scoreWith_41 rfl (lv_at hl 2 rfl) ?_
    refine va_get (D := D) (ci := 0) (v := .int (gX0_penalty S)) (C := RX0) (T := TX0) (N := 14) hx hb hts hinX0 hown hK hP 0 rfl rfl 3 (by decide) hf18 (fun _ h9 => h9) rfl dX0_scoreWith_42 ?_
    refine lv_bipush (v := (10 : Int32)) hx hb dX0_scoreWith_45 (by decide) ?_
    refine lv_imul hx hb dX0_scoreWith_47 ?_
    refine lv_iload hx hb dX0_scoreWith_48 (lv_at hl 0 rfl) ?_
    refine lv_imul hx hb dX0_scoreWith_50 ?_
    refine lv_isub hx hb dX0_scoreWith_51 ?_
    refine va_mmax hx hb (hml.trans hl.1.symm) hown hm199 hms_max hmi hmc_max (Nat.le_of_ble_eq_true rfl) (Nat.le_of_ble_eq_true rfl) (Nat.zero_le _) (Nat.zero_le _) dX0_scoreWith_52 ?_
    exact W.iret (v := (if (0 : Int32) < (x1 - (((gX0_penalty S) * (10 : Int32)) * (if (0 : Int32) < x3 then x3 else (0 : Int32)))) then (x1 - (((gX0_penalty S) * (10 : Int32)) * (if (0 : Int32) < x3 then x3 else (0 : Int32)))) else (0 : Int32))) hx hb hr (fun t ht hW => ⟨(if (0 : Int32) < (x1 - (((gX0_penalty S) * (10 : Int32)) * (if (0 : Int32) < x3 then x3 else (0 : Int32)))) then (x1 - (((gX0_penalty S) * (10 : Int32)) * (if (0 : Int32) < x3 then x3 else (0 : Int32)))) else (0 : Int32)), rfl, some_in h, ht⟩) (fun q hq => nomatch hq) dX0_scoreWith_55
  · have h := ite_p cc h
    refine lv_iconst (v := (-1 : Int32)) hx hb dX0_scoreWith_22 (by decide) ?_
    exact W.iret (v := (-1 : Int32)) hx hb hr (fun t ht hW => ⟨(-1 : Int32), rfl, some_in h, ht⟩) (fun q hq => nomatch hq) dX0_scoreWith_23
set_option maxHeartbeats 4000000 in
set_option maxRecDepth 100000 in
theorem qX0_scoreOf (l : Launch) (D : va_G) (cy : Nat → ClassId) (a : Nat → Nat) (o : Nat) (S : SX0) (p1 : Int32) (rs : Int32) (h : DX0_scoreOf S p1 = some rs) : Met l yX0_scoreOf wsX0_scoreOf ({ frames := 3, cells := 0, slots := 0, locals := 78 } : Room) (va_Pc [.ref (a o), .int p1] (fun U => va_P D vwCl (wX0 cy a o S) U.heap ∧ gK D cy U)) (vp_Si (fun z => z = rs)) 0 0 (fun _ => False) := by
  refine Met.ofW (cc := cX0_scoreOf) (maxL := 2) (ret := (some .int)) (by decide) rfl ?_
  intro p e s m args below meth c s₁ B hml hv
  obtain ⟨rfl, hP, hG⟩ := hv
  have hx := B.exec
  have hb := B.bytes
  have hr := B.returns
  have hts := atoms_spec (ws := wsX0_scoreOf) B.pre
  have hown : s.vm.findClass RX0 = some m.cls := findClass_of_methodNamed B.named
  have hlocks := B.notSynchronized
  have hK := hG.1
  have hl := lv_entry ([.ref (a o), .int p1]) (n := 2) (Nat.le_of_ble_eq_true rfl)
  rw [lg_entry_eq]
  generalize (lg_sl ([.ref (a o), .int p1]) ++ List.replicate (2 - (lg_sl ([.ref (a o), .int p1])).length) Slot.unset).toArray = ls at hl ⊢
  have hl : lv_has ls 2 [(0, .ref (a o)), (1, .int p1)] := hl
  rw [DX0_scoreOf] at h
  refine lv_aload_n hx hb dX0_scoreOf_0 rfl (lv_at hl 0 rfl) ?_
  refine lv_iconst (v := (-1 : Int32)) hx hb dX0_scoreOf_1 (by decide) ?_
  refine lv_iload_n hx hb dX0_scoreOf_2 rfl (lv_at hl 1 rfl) ?_
  refine lv_iconst (v := (-1 : Int32)) hx hb dX0_scoreOf_3 (by decide) ?_
  obtain ⟨x1, e2, h⟩ := bd_some h
  refine pcV (As := [.int (-1 : Int32), .int p1, .int (-1 : Int32)]) (rest := []) (q0 := 0) (qX0_scoreWith l D cy a o S (-1 : Int32) p1 (-1 : Int32) x1 e2) ⟨hx, hb, hml, hown, hts⟩ (cwV 3 hts gX0_scoreOf_X0_scoreWith rfl rfl rfl (by decide +kernel) ⟨Nat.le_of_ble_eq_true rfl, Nat.le_of_ble_eq_true rfl⟩) hG hP rfl rfl rfl hl.1 rfl (Nat.le_of_ble_eq_true rfl) dX0_scoreOf_4 ⟨Nat.zero_le _, Nat.zero_le _⟩ ?_
  exact W.iret (v := x1) hx hb hr (fun t ht hW => ⟨x1, rfl, some_in h, ht⟩) (fun q hq => nomatch hq) dX0_scoreOf_7
set_option maxHeartbeats 4000000 in
set_option maxRecDepth 100000 in
theorem qX7_hasPlayed (l : Launch) (D : va_G) (cy : Nat → ClassId) (a : Nat → Nat) (o : Nat) (S : SX7) (p1 : Int32) (rs : Int32) (h : DX7_hasPlayed S p1 = some rs) : Met l yX7_hasPlayed wsX7_hasPlayed ({ frames := 2, cells := 0, slots := 0, locals := 43 } : Room) (va_Pc [.ref (a o), .int p1] (fun U => va_P D vwCl (wX7 cy a o S) U.heap ∧ gK D cy U)) (vp_Si (fun z => z = rs)) 0 0 (fun _ => False) := by
  refine Met.ofW (cc := cX7_hasPlayed) (maxL := 2) (ret := (some .boolean)) (by decide) rfl ?_
  intro p e s m args below meth c s₁ B hml hv
  obtain ⟨rfl, hP, hG⟩ := hv
  have hx := B.exec
  have hb := B.bytes
  have hr := B.returns
  have hts := atoms_spec (ws := wsX7_hasPlayed) B.pre
  have hown : s.vm.findClass RX7 = some m.cls := findClass_of_methodNamed B.named
  have hlocks := B.notSynchronized
  have hK := hG.1
  have hl := lv_entry ([.ref (a o), .int p1]) (n := 2) (Nat.le_of_ble_eq_true rfl)
  rw [lg_entry_eq]
  generalize (lg_sl ([.ref (a o), .int p1]) ++ List.replicate (2 - (lg_sl ([.ref (a o), .int p1])).length) Slot.unset).toArray = ls at hl ⊢
  have hl : lv_has ls 2 [(0, .ref (a o)), (1, .int p1)] := hl
  rw [DX7_hasPlayed] at h
  refine lv_aload_n hx hb dX7_hasPlayed_0 rfl (lv_at hl 0 rfl) ?_
  refine lv_iload_n hx hb dX7_hasPlayed_1 rfl (lv_at hl 1 rfl) ?_
  obtain ⟨x1, e2, h⟩ := bd_some h
  refine pcV (As := [.int p1]) (rest := []) (q0 := 0) (qX7_slipsOf l D cy a o S p1 x1 e2) ⟨hx, hb, hml, hown, hts⟩ (cwV 1 hts gX7_hasPlayed_X7_slipsOf rfl rfl rfl (by decide +kernel) ⟨Nat.le_of_ble_eq_true rfl, Nat.le_of_ble_eq_true rfl⟩) hG hP rfl rfl rfl hl.1 rfl (Nat.le_of_ble_eq_true rfl) dX7_hasPlayed_2 ⟨Nat.zero_le _, Nat.zero_le _⟩ ?_
  refine lv_iconst (v := (-1 : Int32)) hx hb dX7_hasPlayed_5 (by decide) ?_
  obtain ⟨j4, hj4, h⟩ := jn_elim h
  have Jj4 : ∀ (x3 : Int32) (ls : Array Slot), j4 x3 = some rs → lv_has ls 2 [] → W p l e (headSpec wsX7_hasPlayed ({ frames := 2, cells := 0, slots := 0, locals := 43 } : Room)).room s m ([.ref (a o), .int p1] : List Value).toArray below meth c s.heap [] 0 0 (MQ below (vp_Si (fun z => z = rs)) ([.ref (a o), .int p1] : List Value).toArray s 0 0 (fun _ => False)) (F0 m 14 ls [.int x3]) := by
    intro x3 ls h hl
    rw [hj4] at h
    obtain ⟨g5, h⟩ := gd_some h
    exact W.zret (v := x3) hx hb hr (zN g5) (fun t ht hW => ⟨x3, rfl, some_in h, ht⟩) (fun q hq => nomatch hq) dX7_hasPlayed_14
  refine lv_icmp_eq (tgt := 13) hx hb dX7_hasPlayed_6 (by decide) (fun cc => ?_) (fun cc => ?_)
  · have h := ite_p cc h
    refine lv_iconst (v := (0 : Int32)) hx hb dX7_hasPlayed_13 (by decide) ?_
    exact Jj4 (0 : Int32) ls h (lv_sub hl [] rfl)
  · have h := ite_n cc h
    refine lv_iconst (v := (1 : Int32)) hx hb dX7_hasPlayed_9 (by decide) ?_
    refine lv_goto (tgt := 14) hx hb dX7_hasPlayed_10 (by decide) ?_
    exact Jj4 (1 : Int32) ls h (lv_sub hl [] rfl)
set_option maxHeartbeats 4000000 in
set_option maxRecDepth 100000 in
theorem qX3_isSettled (l : Launch) (D : va_G) (cy : Nat → ClassId) (a : Nat → Nat) (o : Nat) (b1 : Nat → Nat) (z1 : Nat) (S : SX3) (T1 : SX6) (p2 : Int32) (rs : Int32) (h : DX3_isSettled S T1 p2 = some rs) : Met l yX3_isSettled wsX3_isSettled ({ frames := 1, cells := 0, slots := 0, locals := 23 } : Room) (va_Pc [.ref (a o), .ref (b1 z1), .int p2] (fun U => va_P D vwCl ((wX3 cy a o S) ++ (wX6 cy b1 z1 T1)) U.heap ∧ gK D cy U)) (vp_Si (fun z => z = rs)) 0 0 (fun _ => False) := by
  refine Met.ofW (cc := cX3_isSettled) (maxL := 6) (ret := (some .boolean)) (by decide) rfl ?_
  intro p e s m args below meth c s₁ B hml hv
  obtain ⟨rfl, hP, hG⟩ := hv
  have hx := B.exec
  have hb := B.bytes
  have hr := B.returns
  have hts := atoms_spec (ws := wsX3_isSettled) B.pre
  have hown : s.vm.findClass RX3 = some m.cls := findClass_of_methodNamed B.named
  have hlocks := B.notSynchronized
  have hK := hG.1
  have hinX3 := (by decide +kernel : ∀ w ∈ wsX30, w ∈ wsX3_isSettled)
  have hf9 := hts (.fieldLink RX3 9 "PianoRounds$Jury" "size" "I") (by decide +kernel)
  have hl := lv_entry ([.ref (a o), .ref (b1 z1), .int p2]) (n := 6) (Nat.le_of_ble_eq_true rfl)
  rw [lg_entry_eq]
  generalize (lg_sl ([.ref (a o), .ref (b1 z1), .int p2]) ++ List.replicate (6 - (lg_sl ([.ref (a o), .ref (b1 z1), .int p2])).length) Slot.unset).toArray = ls at hl ⊢
  have hl : lv_has ls 6 [(0, .ref (a o)), (1, .ref (b1 z1)), (2, .int p2)] := hl
  rw [DX3_isSettled] at h
  refine lv_iconst (v := (0 : Int32)) hx hb dX3_isSettled_0 (by decide) ?_
  refine lv_istore_n (lv' := [(3, .int (0 : Int32)), (0, .ref (a o)), (1, .ref (b1 z1)), (2, .int p2)]) hx hb dX3_isSettled_1 rfl hl (by decide) rfl (fun ls hl => ?_)
  refine lv_iconst (v := (0 : Int32)) hx hb dX3_isSettled_2 (by decide) ?_
  refine lv_istore (lv' := [(4, .int (0 : Int32)), (3, .int (0 : Int32)), (0, .ref (a o)), (1, .ref (b1 z1)), (2, .int p2)]) hx hb dX3_isSettled_3 hl (by decide) rfl (fun ls hl => ?_)
  have L17 : ∀ (c2_1 : Int32) (k2 : Unit → Option (Int32)) (hk2 : ∀ (ls : Array Slot), k2 () = some rs → lv_has ls 6 [] → W p l e (headSpec wsX3_isSettled ({ frames := 1, cells := 0, slots := 0, locals := 23 } : Room)).room s m ([.ref (a o), .ref (b1 z1), .int p2] : List Value).toArray below meth c s.heap [] 0 0 (MQ below (vp_Si (fun z => z = rs)) ([.ref (a o), .ref (b1 z1), .int p2] : List Value).toArray s 0 0 (fun _ => False)) (F0 m 42 ls [])) (k3 : Int32 → Option (Int32)) (hk3 : ∀ (v3_4 : Int32) (ls : Array Slot), k3 v3_4 = some rs → lv_has ls 6 [(0, .ref (a o)), (3, .int v3_4)] → W p l e (headSpec wsX3_isSettled ({ frames := 1, cells := 0, slots := 0, locals := 23 } : Room)).room s m ([.ref (a o), .ref (b1 z1), .int p2] : List Value).toArray below meth c s.heap [] 0 0 (MQ below (vp_Si (fun z => z = rs)) ([.ref (a o), .ref (b1 z1), .int p2] : List Value).toArray s 0 0 (fun _ => False)) (F0 m 60 ls [])) (f : Nat) (v3_9 : Int32) (v4_10 : Int32) (ls : Array Slot), DX3_isSettled_L5 S T1 c2_1 k2 k3 f v3_9 v4_10 = some rs → lv_has ls 6 [(0, .ref (a o)), (1, .ref (b1 z1)), (2, .int c2_1), (3, .int v3_9), (4, .int v4_10)] → W p l e (headSpec wsX3_isSettled ({ frames := 1, cells := 0, slots := 0, locals := 23 } : Room)).room s m ([.ref (a o), .ref (b1 z1), .int p2] : List Value).toArray below meth c s.heap [] 0 0 (MQ below (vp_Si (fun z => z = rs)) ([.ref (a o), .ref (b1 z1), .int p2] : List Value).toArray s 0 0 (fun _ => False)) (F0 m 5 ls []) := by
    intro c2_1 k2 hk2 k3 hk3 f
    induction f with
    | zero =>
      intro v3_9 v4_10 ls h hl
      rw [DX3_isSettled_L5] at h
      cases h
    | succ f ih =>
      intro v3_9 v4_10 ls h hl
      rw [DX3_isSettled_L5] at h
      refine lv_iload hx hb dX3_isSettled_5 (lv_at hl 4 rfl) ?_
      refine lv_aload_n hx hb dX3_isSettled_7 rfl (lv_at hl 0 rfl) ?_
      refine va_get (D := D) (ci := 3) (v := .int (gX3_size S)) (C := RX3) (T := TX3) (N := 2) hx hb hts hinX3 hown hK hP 0 rfl rfl 0 (by decide) hf9 (fun _ h9 => h9) rfl dX3_isSettled_8 ?_
      refine lv_icmp_ge (tgt := 60) hx hb dX3_isSettled_11 (by decide) (fun cc => ?_) (fun cc => ?_)
      · have h := ite_p cc h
        exact hk3 v3_9 ls h (lv_sub hl [0, 3] rfl)
      · have h := ite_n cc h
        refine lv_aload_n hx hb dX3_isSettled_14 rfl (lv_at hl 0 rfl) ?_
        refine lv_iload hx hb dX3_isSettled_15 (lv_at hl 4 rfl) ?_
        refine lv_iload_n hx hb dX3_isSettled_17 rfl (lv_at hl 2 rfl) ?_
        obtain ⟨x11, e12, h⟩ := bd_some h
        refine pcV (As := [.int v4_10, .int c2_1]) (rest := []) (q0 := 0) (qX3_isBarred l D cy a o S v4_10 c2_1 x11 e12) ⟨hx, hb, hml, hown, hts⟩ (cwV 2 hts gX3_isSettled_X3_isBarred rfl rfl rfl (by decide +kernel) ⟨Nat.le_of_ble_eq_true rfl, Nat.le_of_ble_eq_true rfl⟩) hG (P_seg (X := ([] : va_W)) (c := (wX3 cy a o S)) (Y := (wX6 cy b1 z1 T1)) hP (by simp only [List.append_assoc, List.nil_append, List.append_nil] <;> rfl)) rfl rfl rfl hl.1 rfl (Nat.le_of_ble_eq_true rfl) dX3_isSettled_18 ⟨Nat.zero_le _, Nat.zero_le _⟩ ?_
        obtain ⟨j14, hj14, h⟩ := jn_elim h
        have Jj14 : ∀ (v3_13 : Int32) (ls : Array Slot), j14 v3_13 = some rs → lv_has ls 6 [(0, .ref (a o)), (1, .ref (b1 z1)), (2, .int c2_1), (3, .int v3_13), (4, .int v4_10)] → W p l e (headSpec wsX3_isSettled ({ frames := 1, cells := 0, slots := 0, locals := 23 } : Room)).room s m ([.ref (a o), .ref (b1 z1), .int p2] : List Value).toArray below meth c s.heap [] 0 0 (MQ below (vp_Si (fun z => z = rs)) ([.ref (a o), .ref (b1 z1), .int p2] : List Value).toArray s 0 0 (fun _ => False)) (F0 m 54 ls []) := by
          intro v3_13 ls h hl
          rw [hj14] at h
          refine lv_iinc (v := (v4_10 + (1 : Int32))) (lv' := [(4, .int (v4_10 + (1 : Int32))), (0, .ref (a o)), (1, .ref (b1 z1)), (2, .int c2_1), (3, .int v3_13)]) hx hb dX3_isSettled_54 hl (k := 4) rfl (by rfl) (by decide) rfl (fun ls hl => ?_)
          refine lv_goto (tgt := 5) hx hb dX3_isSettled_57 (by decide) ?_
          exact ih v3_13 (v4_10 + (1 : Int32)) ls h (lv_sub hl [1, 2, 3, 4, 0] rfl)
        refine lv_if_eq (tgt := 27) hx hb dX3_isSettled_21 (by decide) (fun cc => ?_) (fun cc => ?_)
        · have h := ite_p cc h
          refine lv_aload_n hx hb dX3_isSettled_27 rfl (lv_at hl 1 rfl) ?_
          refine lv_iload hx hb dX3_isSettled_28 (lv_at hl 4 rfl) ?_
          refine lv_iload_n hx hb dX3_isSettled_30 rfl (lv_at hl 2 rfl) ?_
          obtain ⟨x15, e16, h⟩ := bd_some h
          refine pcV (As := [.int v4_10, .int c2_1]) (rest := []) (q0 := 0) (qX6_at l D cy b1 z1 T1 v4_10 c2_1 x15 e16) ⟨hx, hb, hml, hown, hts⟩ (cwV 2 hts gX3_isSettled_X6_at rfl rfl rfl (by decide +kernel) ⟨Nat.le_of_ble_eq_true rfl, Nat.le_of_ble_eq_true rfl⟩) hG (P_seg (X := (wX3 cy a o S)) (c := (wX6 cy b1 z1 T1)) (Y := ([] : va_W)) hP (by simp only [List.append_assoc, List.nil_append, List.append_nil] <;> rfl)) rfl rfl rfl hl.1 rfl (Nat.le_of_ble_eq_true rfl) dX3_isSettled_31 ⟨Nat.zero_le _, Nat.zero_le _⟩ ?_
          refine lv_istore (lv' := [(5, .int x15), (0, .ref (a o)), (1, .ref (b1 z1)), (2, .int c2_1), (3, .int v3_9), (4, .int v4_10)]) hx hb dX3_isSettled_34 hl (by decide) rfl (fun ls hl => ?_)
          refine lv_iload hx hb dX3_isSettled_36 (lv_at hl 0 rfl) ?_
          refine lv_iconst (v := (-1 : Int32)) hx hb dX3_isSettled_38 (by decide) ?_
          refine lv_icmp_ne (tgt := 44) hx hb dX3_isSettled_39 (by decide) (fun cc => ?_) (fun cc => ?_)
          · have h := ite_n cc h
            refine lv_iload hx hb dX3_isSettled_44 (lv_at hl 0 rfl) ?_
            refine lv_bipush (v := (-2 : Int32)) hx hb dX3_isSettled_46 (by decide) ?_
            refine lv_icmp_eq (tgt := 54) hx hb dX3_isSettled_48 (by decide) (fun cc => ?_) (fun cc => ?_)
            · have h := ite_p cc h
              exact Jj14 v3_9 ls h (lv_sub hl [1, 2, 3, 4, 5] rfl)
            · have h := ite_n cc h
              refine lv_iinc (v := (v3_9 + (1 : Int32))) (lv' := [(3, .int (v3_9 + (1 : Int32))), (5, .int x15), (0, .ref (a o)), (1, .ref (b1 z1)), (2, .int c2_1), (4, .int v4_10)]) hx hb dX3_isSettled_51 hl (k := 4) rfl (by rfl) (by decide) rfl (fun ls hl => ?_)
              exact Jj14 (v3_9 + (1 : Int32)) ls h (lv_sub hl [2, 3, 4, 0, 5] rfl)
          · have h := ite_p cc h
            exact hk2  ls h (lv_sub hl [] rfl)
        · have h := ite_n cc h
          refine lv_goto (tgt := 54) hx hb dX3_isSettled_24 (by decide) ?_
          exact Jj14 v3_9 ls h (lv_sub hl [0, 1, 2, 3, 4] rfl)
  refine L17 p2 _ ?_ _ ?_ fu (0 : Int32) (0 : Int32) ls h (lv_sub hl [2, 3, 4, 1, 0] rfl)
  · intro ls h hl
    refine lv_iconst (v := (0 : Int32)) hx hb dX3_isSettled_42 (by decide) ?_
    exact W.zret (v := (0 : Int32)) hx hb hr rfl (fun t ht hW => ⟨(0 : Int32), rfl, some_in h, ht⟩) (fun q hq => nomatch hq) dX3_isSettled_43
  · intro v3_5 ls h hl
    refine lv_iload_n hx hb dX3_isSettled_60 rfl (lv_at hl 1 rfl) ?_
    refine lv_aload_n hx hb dX3_isSettled_61 rfl (lv_at hl 0 rfl) ?_
    refine va_get (D := D) (ci := 3) (v := .int (gX3_size S)) (C := RX3) (T := TX3) (N := 2) hx hb hts hinX3 hown hK hP 0 rfl rfl 0 (by decide) hf9 (fun _ h9 => h9) rfl dX3_isSettled_62 ?_
    refine lv_iconst (v := (1 : Int32)) hx hb dX3_isSettled_65 (by decide) ?_
    refine lv_iadd hx hb dX3_isSettled_66 ?_
    refine lv_iconst (v := (2 : Int32)) hx hb dX3_isSettled_67 (by decide) ?_
    refine lv_idiv hx hb dX3_isSettled_68 (by decide) ?_
    obtain ⟨j7, hj7, h⟩ := jn_elim h
    have Jj7 : ∀ (x6 : Int32) (ls : Array Slot), j7 x6 = some rs → lv_has ls 6 [] → W p l e (headSpec wsX3_isSettled ({ frames := 1, cells := 0, slots := 0, locals := 23 } : Room)).room s m ([.ref (a o), .ref (b1 z1), .int p2] : List Value).toArray below meth c s.heap [] 0 0 (MQ below (vp_Si (fun z => z = rs)) ([.ref (a o), .ref (b1 z1), .int p2] : List Value).toArray s 0 0 (fun _ => False)) (F0 m 77 ls [.int x6]) := by
      intro x6 ls h hl
      rw [hj7] at h
      obtain ⟨g8, h⟩ := gd_some h
      exact W.zret (v := x6) hx hb hr (zN g8) (fun t ht hW => ⟨x6, rfl, some_in h, ht⟩) (fun q hq => nomatch hq) dX3_isSettled_77
    refine lv_icmp_lt (tgt := 76) hx hb dX3_isSettled_69 (by decide) (fun cc => ?_) (fun cc => ?_)
    · have h := ite_p cc h
      refine lv_iconst (v := (0 : Int32)) hx hb dX3_isSettled_76 (by decide) ?_
      exact Jj7 (0 : Int32) ls h (lv_sub hl [] rfl)
    · have h := ite_n cc h
      refine lv_iconst (v := (1 : Int32)) hx hb dX3_isSettled_72 (by decide) ?_
      refine lv_goto (tgt := 77) hx hb dX3_isSettled_73 (by decide) ?_
      exact Jj7 (1 : Int32) ls h (lv_sub hl [] rfl)
set_option maxHeartbeats 4000000 in
set_option maxRecDepth 100000 in
theorem qX0_isComplete (l : Launch) (D : va_G) (cy : Nat → ClassId) (a : Nat → Nat) (o : Nat) (S : SX0) (p1 : Int32) (rs : Int32) (h : DX0_isComplete S p1 = some rs) : Met l yX0_isComplete wsX0_isComplete ({ frames := 3, cells := 0, slots := 0, locals := 64 } : Room) (va_Pc [.ref (a o), .int p1] (fun U => va_P D vwCl (wX0 cy a o S) U.heap ∧ gK D cy U)) (vp_Si (fun z => z = rs)) 0 0 (fun _ => False) := by
  refine Met.ofW (cc := cX0_isComplete) (maxL := 2) (ret := (some .boolean)) (by decide) rfl ?_
  intro p e s m args below meth c s₁ B hml hv
  obtain ⟨rfl, hP, hG⟩ := hv
  have hx := B.exec
  have hb := B.bytes
  have hr := B.returns
  have hts := atoms_spec (ws := wsX0_isComplete) B.pre
  have hown : s.vm.findClass RX0 = some m.cls := findClass_of_methodNamed B.named
  have hlocks := B.notSynchronized
  have hK := hG.1
  have hinX0 := (by decide +kernel : ∀ w ∈ wsX00, w ∈ wsX0_isComplete)
  have hf57 := hts (.fieldLink RX0 57 "PianoRounds$Competition" "stage" "LPianoRounds$Stage;") (by decide +kernel)
  have hf50 := hts (.fieldLink RX0 50 "PianoRounds$Competition" "jury" "LPianoRounds$Jury;") (by decide +kernel)
  have hf64 := hts (.fieldLink RX0 64 "PianoRounds$Competition" "sheet" "LPianoRounds$Sheet;") (by decide +kernel)
  have hl := lv_entry ([.ref (a o), .int p1]) (n := 2) (Nat.le_of_ble_eq_true rfl)
  rw [lg_entry_eq]
  generalize (lg_sl ([.ref (a o), .int p1]) ++ List.replicate (2 - (lg_sl ([.ref (a o), .int p1])).length) Slot.unset).toArray = ls at hl ⊢
  have hl : lv_has ls 2 [(0, .ref (a o)), (1, .int p1)] := hl
  rw [DX0_isComplete] at h
  refine lv_aload_n hx hb dX0_isComplete_0 rfl (lv_at hl 0 rfl) ?_
  refine va_get (D := D) (ci := 0) (v := .ref (a (o + 23))) (C := RX0) (T := TX0) (N := 14) hx hb hts hinX0 hown hK hP 0 rfl rfl 9 (by decide) hf57 (fun _ h9 => h9) rfl dX0_isComplete_1 ?_
  refine lv_iload_n hx hb dX0_isComplete_4 rfl (lv_at hl 1 rfl) ?_
  obtain ⟨x1, e2, h⟩ := bd_some h
  refine pcV (As := [.int p1]) (rest := []) (q0 := 0) (qX7_hasPlayed l D cy a (o + 23) (gX0_stage S) p1 x1 e2) ⟨hx, hb, hml, hown, hts⟩ (cwV 1 hts gX0_isComplete_X7_hasPlayed rfl rfl rfl (by decide +kernel) ⟨Nat.le_of_ble_eq_true rfl, Nat.le_of_ble_eq_true rfl⟩) hG (P_seg (X := ((hX0 a o S) ++ ((wX10 cy a (o + 1) (gX0_works S)) ++ ((wX2 cy a (o + 5) (gX0_entrants S)) ++ ((rowsW (cy 2) (cy 0) a (o + 7) 4 6 (gX0_rules S)) ++ ((wX4 cy a (o + 12) (gX0_programs S)) ++ (wX3 cy a (o + 14) (gX0_jury S)))))))) (c := (wX7 cy a (o + 23) (gX0_stage S))) (Y := ((wX6 cy a (o + 26) (gX0_sheet S)) ++ ((wX9 cy a (o + 35) (gX0_tie S)) ++ ((rowsW (cy 2) (cy 0) a (o + 46) 4 12 (gX0_closedScores S)) ++ (wX1 cy a (o + 51) (gX0_cut S)))))) hP (by simp only [wX0, List.append_assoc, List.nil_append, List.append_nil] <;> rfl)) rfl rfl rfl hl.1 rfl (Nat.le_of_ble_eq_true rfl) dX0_isComplete_5 ⟨Nat.zero_le _, Nat.zero_le _⟩ ?_
  obtain ⟨j4, hj4, h⟩ := jn_elim h
  have Jj4 : ∀ (x3 : Int32) (ls : Array Slot), j4 x3 = some rs → lv_has ls 2 [] → W p l e (headSpec wsX0_isComplete ({ frames := 3, cells := 0, slots := 0, locals := 64 } : Room)).room s m ([.ref (a o), .int p1] : List Value).toArray below meth c s.heap [] 0 0 (MQ below (vp_Si (fun z => z = rs)) ([.ref (a o), .int p1] : List Value).toArray s 0 0 (fun _ => False)) (F0 m 31 ls [.int x3]) := by
    intro x3 ls h hl
    rw [hj4] at h
    obtain ⟨g5, h⟩ := gd_some h
    exact W.zret (v := x3) hx hb hr (zN g5) (fun t ht hW => ⟨x3, rfl, some_in h, ht⟩) (fun q hq => nomatch hq) dX0_isComplete_31
  obtain ⟨j6, hj6, h⟩ := jn_elim h
  have Jj6 : ∀ (ls : Array Slot), j6 () = some rs → lv_has ls 2 [] → W p l e (headSpec wsX0_isComplete ({ frames := 3, cells := 0, slots := 0, locals := 64 } : Room)).room s m ([.ref (a o), .int p1] : List Value).toArray below meth c s.heap [] 0 0 (MQ below (vp_Si (fun z => z = rs)) ([.ref (a o), .int p1] : List Value).toArray s 0 0 (fun _ => False)) (F0 m 30 ls []) := by
    intro ls h hl
    rw [hj6] at h
    refine lv_iconst (v := (0 : Int32)) hx hb dX0_isComplete_30 (by decide) ?_
    exact Jj4 (0 : Int32) ls h (lv_sub hl [] rfl)
  refine lv_if_eq (tgt := 30) hx hb dX0_isComplete_8 (by decide) (fun cc => ?_) (fun cc => ?_)
  · have h := ite_p cc h
    exact Jj6  ls h (lv_sub hl [] rfl)
  · have h := ite_n cc h
    refine lv_aload_n hx hb dX0_isComplete_11 rfl (lv_at hl 0 rfl) ?_
    refine va_get (D := D) (ci := 0) (v := .ref (a (o + 14))) (C := RX0) (T := TX0) (N := 14) hx hb hts hinX0 hown hK hP 0 rfl rfl 8 (by decide) hf50 (fun _ h9 => h9) rfl dX0_isComplete_12 ?_
    refine lv_aload_n hx hb dX0_isComplete_15 rfl (lv_at hl 0 rfl) ?_
    refine va_get (D := D) (ci := 0) (v := .ref (a (o + 26))) (C := RX0) (T := TX0) (N := 14) hx hb hts hinX0 hown hK hP 0 rfl rfl 10 (by decide) hf64 (fun _ h9 => h9) rfl dX0_isComplete_16 ?_
    refine lv_iload_n hx hb dX0_isComplete_19 rfl (lv_at hl 1 rfl) ?_
    obtain ⟨x7, e8, h⟩ := bd_some h
    refine pcV (As := [.ref (a (o + 26)), .int p1]) (rest := []) (q0 := 0) (qX3_isSettled l D cy a (o + 14) a (o + 26) (gX0_jury S) (gX0_sheet S) p1 x7 e8) ⟨hx, hb, hml, hown, hts⟩ (cwV 2 hts gX0_isComplete_X3_isSettled rfl rfl rfl (by decide +kernel) ⟨Nat.le_of_ble_eq_true rfl, Nat.le_of_ble_eq_true rfl⟩) hG (va_P.app (P_seg (X := ((hX0 a o S) ++ ((wX10 cy a (o + 1) (gX0_works S)) ++ ((wX2 cy a (o + 5) (gX0_entrants S)) ++ ((rowsW (cy 2) (cy 0) a (o + 7) 4 6 (gX0_rules S)) ++ (wX4 cy a (o + 12) (gX0_programs S))))))) (c := (wX3 cy a (o + 14) (gX0_jury S))) (Y := ((wX7 cy a (o + 23) (gX0_stage S)) ++ ((wX6 cy a (o + 26) (gX0_sheet S)) ++ ((wX9 cy a (o + 35) (gX0_tie S)) ++ ((rowsW (cy 2) (cy 0) a (o + 46) 4 12 (gX0_closedScores S)) ++ (wX1 cy a (o + 51) (gX0_cut S))))))) hP (by simp only [wX0, List.append_assoc, List.nil_append, List.append_nil] <;> rfl)) (P_seg (X := ((hX0 a o S) ++ ((wX10 cy a (o + 1) (gX0_works S)) ++ ((wX2 cy a (o + 5) (gX0_entrants S)) ++ ((rowsW (cy 2) (cy 0) a (o + 7) 4 6 (gX0_rules S)) ++ ((wX4 cy a (o + 12) (gX0_programs S)) ++ ((wX3 cy a (o + 14) (gX0_jury S)) ++ (wX7 cy a (o + 23) (gX0_stage S))))))))) (c := (wX6 cy a (o + 26) (gX0_sheet S))) (Y := ((wX9 cy a (o + 35) (gX0_tie S)) ++ ((rowsW (cy 2) (cy 0) a (o + 46) 4 12 (gX0_closedScores S)) ++ (wX1 cy a (o + 51) (gX0_cut S))))) hP (by simp only [wX0, List.append_assoc, List.nil_append, List.append_nil] <;> rfl))) rfl rfl rfl hl.1 rfl (Nat.le_of_ble_eq_true rfl) dX0_isComplete_20 ⟨Nat.zero_le _, Nat.zero_le _⟩ ?_
    refine lv_if_eq (tgt := 30) hx hb dX0_isComplete_23 (by decide) (fun cc => ?_) (fun cc => ?_)
    · have h := ite_p cc h
      exact Jj6  ls h (lv_sub hl [] rfl)
    · have h := ite_n cc h
      refine lv_iconst (v := (1 : Int32)) hx hb dX0_isComplete_26 (by decide) ?_
      refine lv_goto (tgt := 31) hx hb dX0_isComplete_27 (by decide) ?_
      exact Jj4 (1 : Int32) ls h (lv_sub hl [] rfl)
set_option maxHeartbeats 4000000 in
set_option maxRecDepth 100000 in
theorem qX9_has (l : Launch) (D : va_G) (cy : Nat → ClassId) (a : Nat → Nat) (o : Nat) (S : SX9) (p1 : Int32) (rs : Int32) (h : DX9_has S p1 = some rs) : Met l yX9_has wsX9_has ({ frames := 1, cells := 0, slots := 0, locals := 22 } : Room) (va_Pc [.ref (a o), .int p1] (fun U => va_P D vwCl (wX9 cy a o S) U.heap ∧ gK D cy U)) (vp_Si (fun z => z = rs)) 0 0 (fun _ => False) := by
  refine Met.ofW (cc := cX9_has) (maxL := 2) (ret := (some .boolean)) (by decide) rfl ?_
  intro p e s m args below meth c s₁ B hml hv
  obtain ⟨rfl, hP, hG⟩ := hv
  have hx := B.exec
  have hb := B.bytes
  have hr := B.returns
  have hts := atoms_spec (ws := wsX9_has) B.pre
  have hown : s.vm.findClass RX9 = some m.cls := findClass_of_methodNamed B.named
  have hlocks := B.notSynchronized
  have hK := hG.1
  have hinX9 := (by decide +kernel : ∀ w ∈ wsX90, w ∈ wsX9_has)
  have hf9 := hts (.fieldLink RX9 9 "PianoRounds$Tie" "tied" "[I") (by decide +kernel)
  have hl := lv_entry ([.ref (a o), .int p1]) (n := 2) (Nat.le_of_ble_eq_true rfl)
  rw [lg_entry_eq]
  generalize (lg_sl ([.ref (a o), .int p1]) ++ List.replicate (2 - (lg_sl ([.ref (a o), .int p1])).length) Slot.unset).toArray = ls at hl ⊢
  have hl : lv_has ls 2 [(0, .ref (a o)), (1, .int p1)] := hl
  rw [DX9_has] at h
  refine lv_iload_n hx hb dX9_has_0 rfl (lv_at hl 1 rfl) ?_
  refine lv_iconst (v := (0 : Int32)) hx hb dX9_has_1 (by decide) ?_
  refine lv_bipush (v := (11 : Int32)) hx hb dX9_has_2 (by decide) ?_
  obtain ⟨x1, e2, h⟩ := bd_some h
  refine pcSN (As := [.int p1, .int (0 : Int32), .int (11 : Int32)]) (rest := []) (qX11_isBetween l D cy  p1 (0 : Int32) (11 : Int32) x1 e2) ⟨hx, hb, hml, hown, hts⟩ ⟨va_cnB (y := yX11_isBetween) 3 hts gX9_has_X11_isBetween_n48 rfl rfl rfl (hG.2.2.1 (.methodLinkNest "PianoRounds$Tie" 48 ⟨"PianoRounds", "isBetween", "(III)Z"⟩ "PianoRounds") (by decide +kernel)) (hts (.initialized RX11) (by decide +kernel)) (by decide +kernel) ⟨Nat.le_of_ble_eq_true rfl, Nat.le_of_ble_eq_true rfl⟩, hts (.static yX11_isBetween) (by decide +kernel), trivial⟩ hG (hP.sub [] rfl) rfl hl.1 rfl (Nat.le_of_ble_eq_true rfl) dX9_has_4 ⟨Nat.zero_le _, Nat.zero_le _⟩ ?_
  obtain ⟨j4, hj4, h⟩ := jn_elim h
  have Jj4 : ∀ (x3 : Int32) (ls : Array Slot), j4 x3 = some rs → lv_has ls 2 [] → W p l e (headSpec wsX9_has ({ frames := 1, cells := 0, slots := 0, locals := 22 } : Room)).room s m ([.ref (a o), .int p1] : List Value).toArray below meth c s.heap [] 0 0 (MQ below (vp_Si (fun z => z = rs)) ([.ref (a o), .int p1] : List Value).toArray s 0 0 (fun _ => False)) (F0 m 25 ls [.int x3]) := by
    intro x3 ls h hl
    rw [hj4] at h
    obtain ⟨g5, h⟩ := gd_some h
    exact W.zret (v := x3) hx hb hr (zN g5) (fun t ht hW => ⟨x3, rfl, some_in h, ht⟩) (fun q hq => nomatch hq) dX9_has_25
  obtain ⟨j6, hj6, h⟩ := jn_elim h
  have Jj6 : ∀ (ls : Array Slot), j6 () = some rs → lv_has ls 2 [] → W p l e (headSpec wsX9_has ({ frames := 1, cells := 0, slots := 0, locals := 22 } : Room)).room s m ([.ref (a o), .int p1] : List Value).toArray below meth c s.heap [] 0 0 (MQ below (vp_Si (fun z => z = rs)) ([.ref (a o), .int p1] : List Value).toArray s 0 0 (fun _ => False)) (F0 m 24 ls []) := by
    intro ls h hl
    rw [hj6] at h
    refine lv_iconst (v := (0 : Int32)) hx hb dX9_has_24 (by decide) ?_
    exact Jj4 (0 : Int32) ls h (lv_sub hl [] rfl)
  refine lv_if_eq (tgt := 24) hx hb dX9_has_7 (by decide) (fun cc => ?_) (fun cc => ?_)
  · have h := ite_p cc h
    exact Jj6  ls h (lv_sub hl [] rfl)
  · have h := ite_n cc h
    refine lv_aload_n hx hb dX9_has_10 rfl (lv_at hl 0 rfl) ?_
    refine va_get (D := D) (ci := 9) (v := .ref (a (o + 1))) (C := RX9) (T := TX9) (N := 4) hx hb hts hinX9 hown hK hP 0 rfl rfl 2 (by decide) hf9 (fun _ h9 => h9) rfl dX9_has_11 ?_
    refine lv_iload_n hx hb dX9_has_14 rfl (lv_at hl 1 rfl) ?_
    obtain ⟨g7, h⟩ := gd_some h
    refine r_ald (f := (gX9_tied S)) (n := 12) (v := ((gX9_tied S) ((p1).toNatClampNeg))) hx hb hK hP 1 0 rfl rfl (gIn_in g7) rfl dX9_has_15 ?_
    refine lv_iconst (v := (1 : Int32)) hx hb dX9_has_16 (by decide) ?_
    refine lv_icmp_ne (tgt := 24) hx hb dX9_has_17 (by decide) (fun cc => ?_) (fun cc => ?_)
    · have h := ite_n cc h
      exact Jj6  ls h (lv_sub hl [] rfl)
    · have h := ite_p cc h
      refine lv_iconst (v := (1 : Int32)) hx hb dX9_has_20 (by decide) ?_
      refine lv_goto (tgt := 25) hx hb dX9_has_21 (by decide) ?_
      exact Jj4 (1 : Int32) ls h (lv_sub hl [] rfl)
set_option maxHeartbeats 4000000 in
set_option maxRecDepth 100000 in
theorem qX3_meanOf (l : Launch) (D : va_G) (cy : Nat → ClassId) (a : Nat → Nat) (o : Nat) (b1 : Nat → Nat) (z1 : Nat) (S : SX3) (T1 : SX6) (p2 : Int32) (rs : Int32) (h : DX3_meanOf S T1 p2 = some rs) : Met l yX3_meanOf wsX3_meanOf ({ frames := 2, cells := 0, slots := 0, locals := 53 } : Room) (va_Pc [.ref (a o), .ref (b1 z1), .int p2] (fun U => va_P D vwCl ((wX3 cy a o S) ++ (wX6 cy b1 z1 T1)) U.heap ∧ gK D cy U)) (vp_Si (fun z => z = rs)) 0 0 (fun _ => False) := by
  refine Met.ofW (cc := cX3_meanOf) (maxL := 3) (ret := (some .int)) (by decide) rfl ?_
  intro p e s m args below meth c s₁ B hml hv
  obtain ⟨rfl, hP, hG⟩ := hv
  have hx := B.exec
  have hb := B.bytes
  have hr := B.returns
  have hts := atoms_spec (ws := wsX3_meanOf) B.pre
  have hown : s.vm.findClass RX3 = some m.cls := findClass_of_methodNamed B.named
  have hlocks := B.notSynchronized
  have hK := hG.1
  have hl := lv_entry ([.ref (a o), .ref (b1 z1), .int p2]) (n := 3) (Nat.le_of_ble_eq_true rfl)
  rw [lg_entry_eq]
  generalize (lg_sl ([.ref (a o), .ref (b1 z1), .int p2]) ++ List.replicate (3 - (lg_sl ([.ref (a o), .ref (b1 z1), .int p2])).length) Slot.unset).toArray = ls at hl ⊢
  have hl : lv_has ls 3 [(0, .ref (a o)), (1, .ref (b1 z1)), (2, .int p2)] := hl
  rw [DX3_meanOf] at h
  refine lv_aload_n hx hb dX3_meanOf_0 rfl (lv_at hl 0 rfl) ?_
  refine lv_aload_n hx hb dX3_meanOf_1 rfl (lv_at hl 1 rfl) ?_
  refine lv_iload_n hx hb dX3_meanOf_2 rfl (lv_at hl 2 rfl) ?_
  refine lv_iconst (v := (-1 : Int32)) hx hb dX3_meanOf_3 (by decide) ?_
  refine lv_iconst (v := (-1 : Int32)) hx hb dX3_meanOf_4 (by decide) ?_
  obtain ⟨x1, e2, h⟩ := bd_some h
  refine pcV (As := [.ref (b1 z1), .int p2, .int (-1 : Int32), .int (-1 : Int32)]) (rest := []) (q0 := 0) (qX3_meanIf l D cy a o b1 z1 S T1 p2 (-1 : Int32) (-1 : Int32) x1 e2) ⟨hx, hb, hml, hown, hts⟩ (cwV 4 hts gX3_meanOf_X3_meanIf rfl rfl rfl (by decide +kernel) ⟨Nat.le_of_ble_eq_true rfl, Nat.le_of_ble_eq_true rfl⟩) hG (va_P.app (P_seg (X := ([] : va_W)) (c := (wX3 cy a o S)) (Y := (wX6 cy b1 z1 T1)) hP (by simp only [List.append_assoc, List.nil_append, List.append_nil] <;> rfl)) (P_seg (X := (wX3 cy a o S)) (c := (wX6 cy b1 z1 T1)) (Y := ([] : va_W)) hP (by simp only [List.append_assoc, List.nil_append, List.append_nil] <;> rfl))) rfl rfl rfl hl.1 rfl (Nat.le_of_ble_eq_true rfl) dX3_meanOf_5 ⟨Nat.zero_le _, Nat.zero_le _⟩ ?_
  exact W.iret (v := x1) hx hb hr (fun t ht hW => ⟨x1, rfl, some_in h, ht⟩) (fun q hq => nomatch hq) dX3_meanOf_8
set_option maxHeartbeats 4000000 in
set_option maxRecDepth 100000 in
theorem qX0_tellOfEntrant (l : Launch) (D : va_G) (cy : Nat → ClassId) (a : Nat → Nat) (o : Nat) (S : SX0) (p1 : Int32) (p2 : Int32) (rs : Int32) (h : DX0_tellOfEntrant S p1 p2 = some rs) : Met l yX0_tellOfEntrant wsX0_tellOfEntrant ({ frames := 4, cells := 0, slots := 0, locals := 99 } : Room) (va_Pc [.ref (a o), .int p1, .int p2] (fun U => va_P D vwCl (wX0 cy a o S) U.heap ∧ gK D cy U)) (vp_Si (fun z => z = rs)) 0 0 (fun _ => False) := by
  refine Met.ofW (cc := cX0_tellOfEntrant) (maxL := 3) (ret := (some .int)) (by decide) rfl ?_
  intro p e s m args below meth c s₁ B hml hv
  obtain ⟨rfl, hP, hG⟩ := hv
  have hx := B.exec
  have hb := B.bytes
  have hr := B.returns
  have hts := atoms_spec (ws := wsX0_tellOfEntrant) B.pre
  have hown : s.vm.findClass RX0 = some m.cls := findClass_of_methodNamed B.named
  have hlocks := B.notSynchronized
  have hK := hG.1
  have hinX0 := (by decide +kernel : ∀ w ∈ wsX00, w ∈ wsX0_tellOfEntrant)
  have hf31 := hts (.fieldLink RX0 31 "PianoRounds$Competition" "entrants" "LPianoRounds$Entrants;") (by decide +kernel)
  have hf57 := hts (.fieldLink RX0 57 "PianoRounds$Competition" "stage" "LPianoRounds$Stage;") (by decide +kernel)
  have hf71 := hts (.fieldLink RX0 71 "PianoRounds$Competition" "tie" "LPianoRounds$Tie;") (by decide +kernel)
  have hf50 := hts (.fieldLink RX0 50 "PianoRounds$Competition" "jury" "LPianoRounds$Jury;") (by decide +kernel)
  have hinX9 := (by decide +kernel : ∀ w ∈ wsX90, w ∈ wsX0_tellOfEntrant)
  have hf176 := va_Nw.use (A := ([.ref (a o), .int p1, .int p2] : List Value).toArray) (U := s) (w := .fieldLinkNest "PianoRounds$Competition" 176 "PianoRounds$Tie" "sheet" "LPianoRounds$Sheet;" "PianoRounds") rfl (hG.2.1 _ (by decide +kernel))
  have hl := lv_entry ([.ref (a o), .int p1, .int p2]) (n := 3) (Nat.le_of_ble_eq_true rfl)
  rw [lg_entry_eq]
  generalize (lg_sl ([.ref (a o), .int p1, .int p2]) ++ List.replicate (3 - (lg_sl ([.ref (a o), .int p1, .int p2])).length) Slot.unset).toArray = ls at hl ⊢
  have hl : lv_has ls 3 [(0, .ref (a o)), (1, .int p1), (2, .int p2)] := hl
  rw [DX0_tellOfEntrant] at h
  refine lv_iload_n hx hb dX0_tellOfEntrant_0 rfl (lv_at hl 2 rfl) ?_
  by_cases c0 : p2 = (0 : Int32)
  · have h := ite_p c0 h
    refine lv_tableIn (tgt := 44) (off := 43) hx hb dX0_tellOfEntrant_1 (by rw [c0]; decide) (by rw [c0]; decide) (by rw [c0]; rfl) (by decide) ?_
    refine lv_aload_n hx hb dX0_tellOfEntrant_44 rfl (lv_at hl 0 rfl) ?_
    refine va_get (D := D) (ci := 0) (v := .ref (a (o + 5))) (C := RX0) (T := TX0) (N := 14) hx hb hts hinX0 hown hK hP 0 rfl rfl 5 (by decide) hf31 (fun _ h9 => h9) rfl dX0_tellOfEntrant_45 ?_
    refine lv_iload_n hx hb dX0_tellOfEntrant_48 rfl (lv_at hl 1 rfl) ?_
    obtain ⟨x1, e2, h⟩ := bd_some h
    refine pcV (As := [.int p1]) (rest := []) (q0 := 0) (qX2_isIn l D cy a (o + 5) (gX0_entrants S) p1 x1 e2) ⟨hx, hb, hml, hown, hts⟩ (cwV 1 hts gX0_tellOfEntrant_X2_isIn rfl rfl rfl (by decide +kernel) ⟨Nat.le_of_ble_eq_true rfl, Nat.le_of_ble_eq_true rfl⟩) hG (P_seg (X := ((hX0 a o S) ++ (wX10 cy a (o + 1) (gX0_works S)))) (c := (wX2 cy a (o + 5) (gX0_entrants S))) (Y := ((rowsW (cy 2) (cy 0) a (o + 7) 4 6 (gX0_rules S)) ++ ((wX4 cy a (o + 12) (gX0_programs S)) ++ ((wX3 cy a (o + 14) (gX0_jury S)) ++ ((wX7 cy a (o + 23) (gX0_stage S)) ++ ((wX6 cy a (o + 26) (gX0_sheet S)) ++ ((wX9 cy a (o + 35) (gX0_tie S)) ++ ((rowsW (cy 2) (cy 0) a (o + 46) 4 12 (gX0_closedScores S)) ++ (wX1 cy a (o + 51) (gX0_cut S)))))))))) hP (by simp only [wX0, List.append_assoc, List.nil_append, List.append_nil] <;> rfl)) rfl rfl rfl hl.1 rfl (Nat.le_of_ble_eq_true rfl) dX0_tellOfEntrant_49 ⟨Nat.zero_le _, Nat.zero_le _⟩ ?_
    obtain ⟨j4, hj4, h⟩ := jn_elim h
    have Jj4 : ∀ (x3 : Int32) (ls : Array Slot), j4 x3 = some rs → lv_has ls 3 [] → W p l e (headSpec wsX0_tellOfEntrant ({ frames := 4, cells := 0, slots := 0, locals := 99 } : Room)).room s m ([.ref (a o), .int p1, .int p2] : List Value).toArray below meth c s.heap [] 0 0 (MQ below (vp_Si (fun z => z = rs)) ([.ref (a o), .int p1, .int p2] : List Value).toArray s 0 0 (fun _ => False)) (F0 m 60 ls [.int x3]) := by
      intro x3 ls h hl
      rw [hj4] at h
      exact W.iret (v := x3) hx hb hr (fun t ht hW => ⟨x3, rfl, some_in h, ht⟩) (fun q hq => nomatch hq) dX0_tellOfEntrant_60
    refine lv_if_eq (tgt := 59) hx hb dX0_tellOfEntrant_52 (by decide) (fun cc => ?_) (fun cc => ?_)
    · have h := ite_p cc h
      refine lv_iconst (v := (0 : Int32)) hx hb dX0_tellOfEntrant_59 (by decide) ?_
      exact Jj4 (0 : Int32) ls h (lv_sub hl [] rfl)
    · have h := ite_n cc h
      refine lv_iconst (v := (1 : Int32)) hx hb dX0_tellOfEntrant_55 (by decide) ?_
      refine lv_goto (tgt := 60) hx hb dX0_tellOfEntrant_56 (by decide) ?_
      exact Jj4 (1 : Int32) ls h (lv_sub hl [] rfl)
  have h := ite_n c0 h
  by_cases c1 : p2 = (1 : Int32)
  · have h := ite_p c1 h
    refine lv_tableIn (tgt := 61) (off := 60) hx hb dX0_tellOfEntrant_1 (by rw [c1]; decide) (by rw [c1]; decide) (by rw [c1]; rfl) (by decide) ?_
    refine lv_aload_n hx hb dX0_tellOfEntrant_61 rfl (lv_at hl 0 rfl) ?_
    refine va_get (D := D) (ci := 0) (v := .ref (a (o + 23))) (C := RX0) (T := TX0) (N := 14) hx hb hts hinX0 hown hK hP 0 rfl rfl 9 (by decide) hf57 (fun _ h9 => h9) rfl dX0_tellOfEntrant_62 ?_
    refine lv_iload_n hx hb dX0_tellOfEntrant_65 rfl (lv_at hl 1 rfl) ?_
    obtain ⟨x5, e6, h⟩ := bd_some h
    refine pcV (As := [.int p1]) (rest := []) (q0 := 0) (qX7_placeOf l D cy a (o + 23) (gX0_stage S) p1 x5 e6) ⟨hx, hb, hml, hown, hts⟩ (cwV 1 hts gX0_tellOfEntrant_X7_placeOf rfl rfl rfl (by decide +kernel) ⟨Nat.le_of_ble_eq_true rfl, Nat.le_of_ble_eq_true rfl⟩) hG (P_seg (X := ((hX0 a o S) ++ ((wX10 cy a (o + 1) (gX0_works S)) ++ ((wX2 cy a (o + 5) (gX0_entrants S)) ++ ((rowsW (cy 2) (cy 0) a (o + 7) 4 6 (gX0_rules S)) ++ ((wX4 cy a (o + 12) (gX0_programs S)) ++ (wX3 cy a (o + 14) (gX0_jury S)))))))) (c := (wX7 cy a (o + 23) (gX0_stage S))) (Y := ((wX6 cy a (o + 26) (gX0_sheet S)) ++ ((wX9 cy a (o + 35) (gX0_tie S)) ++ ((rowsW (cy 2) (cy 0) a (o + 46) 4 12 (gX0_closedScores S)) ++ (wX1 cy a (o + 51) (gX0_cut S)))))) hP (by simp only [wX0, List.append_assoc, List.nil_append, List.append_nil] <;> rfl)) rfl rfl rfl hl.1 rfl (Nat.le_of_ble_eq_true rfl) dX0_tellOfEntrant_66 ⟨Nat.zero_le _, Nat.zero_le _⟩ ?_
    exact W.iret (v := x5) hx hb hr (fun t ht hW => ⟨x5, rfl, some_in h, ht⟩) (fun q hq => nomatch hq) dX0_tellOfEntrant_69
  have h := ite_n c1 h
  by_cases c2 : p2 = (2 : Int32)
  · have h := ite_p c2 h
    refine lv_tableIn (tgt := 70) (off := 69) hx hb dX0_tellOfEntrant_1 (by rw [c2]; decide) (by rw [c2]; decide) (by rw [c2]; rfl) (by decide) ?_
    refine lv_aload_n hx hb dX0_tellOfEntrant_70 rfl (lv_at hl 0 rfl) ?_
    refine va_get (D := D) (ci := 0) (v := .ref (a (o + 23))) (C := RX0) (T := TX0) (N := 14) hx hb hts hinX0 hown hK hP 0 rfl rfl 9 (by decide) hf57 (fun _ h9 => h9) rfl dX0_tellOfEntrant_71 ?_
    refine lv_iload_n hx hb dX0_tellOfEntrant_74 rfl (lv_at hl 1 rfl) ?_
    obtain ⟨x7, e8, h⟩ := bd_some h
    refine pcV (As := [.int p1]) (rest := []) (q0 := 0) (qX7_slipsOf l D cy a (o + 23) (gX0_stage S) p1 x7 e8) ⟨hx, hb, hml, hown, hts⟩ (cwV 1 hts gX0_tellOfEntrant_X7_slipsOf rfl rfl rfl (by decide +kernel) ⟨Nat.le_of_ble_eq_true rfl, Nat.le_of_ble_eq_true rfl⟩) hG (P_seg (X := ((hX0 a o S) ++ ((wX10 cy a (o + 1) (gX0_works S)) ++ ((wX2 cy a (o + 5) (gX0_entrants S)) ++ ((rowsW (cy 2) (cy 0) a (o + 7) 4 6 (gX0_rules S)) ++ ((wX4 cy a (o + 12) (gX0_programs S)) ++ (wX3 cy a (o + 14) (gX0_jury S)))))))) (c := (wX7 cy a (o + 23) (gX0_stage S))) (Y := ((wX6 cy a (o + 26) (gX0_sheet S)) ++ ((wX9 cy a (o + 35) (gX0_tie S)) ++ ((rowsW (cy 2) (cy 0) a (o + 46) 4 12 (gX0_closedScores S)) ++ (wX1 cy a (o + 51) (gX0_cut S)))))) hP (by simp only [wX0, List.append_assoc, List.nil_append, List.append_nil] <;> rfl)) rfl rfl rfl hl.1 rfl (Nat.le_of_ble_eq_true rfl) dX0_tellOfEntrant_75 ⟨Nat.zero_le _, Nat.zero_le _⟩ ?_
    exact W.iret (v := x7) hx hb hr (fun t ht hW => ⟨x7, rfl, some_in h, ht⟩) (fun q hq => nomatch hq) dX0_tellOfEntrant_78
  have h := ite_n c2 h
  by_cases c3 : p2 = (3 : Int32)
  · have h := ite_p c3 h
    refine lv_tableIn (tgt := 79) (off := 78) hx hb dX0_tellOfEntrant_1 (by rw [c3]; decide) (by rw [c3]; decide) (by rw [c3]; rfl) (by decide) ?_
    refine lv_aload_n hx hb dX0_tellOfEntrant_79 rfl (lv_at hl 0 rfl) ?_
    refine lv_iload_n hx hb dX0_tellOfEntrant_80 rfl (lv_at hl 1 rfl) ?_
    obtain ⟨x9, e10, h⟩ := bd_some h
    refine pcV (As := [.int p1]) (rest := []) (q0 := 0) (qX0_countedMarks l D cy a o S p1 x9 e10) ⟨hx, hb, hml, hown, hts⟩ (cwV 1 hts gX0_tellOfEntrant_X0_countedMarks rfl rfl rfl (by decide +kernel) ⟨Nat.le_of_ble_eq_true rfl, Nat.le_of_ble_eq_true rfl⟩) hG hP rfl rfl rfl hl.1 rfl (Nat.le_of_ble_eq_true rfl) dX0_tellOfEntrant_81 ⟨Nat.zero_le _, Nat.zero_le _⟩ ?_
    exact W.iret (v := x9) hx hb hr (fun t ht hW => ⟨x9, rfl, some_in h, ht⟩) (fun q hq => nomatch hq) dX0_tellOfEntrant_84
  have h := ite_n c3 h
  by_cases c4 : p2 = (4 : Int32)
  · have h := ite_p c4 h
    refine lv_tableIn (tgt := 85) (off := 84) hx hb dX0_tellOfEntrant_1 (by rw [c4]; decide) (by rw [c4]; decide) (by rw [c4]; rfl) (by decide) ?_
    refine lv_aload_n hx hb dX0_tellOfEntrant_85 rfl (lv_at hl 0 rfl) ?_
    refine lv_iload_n hx hb dX0_tellOfEntrant_86 rfl (lv_at hl 1 rfl) ?_
    obtain ⟨x11, e12, h⟩ := bd_some h
    refine pcV (As := [.int p1]) (rest := []) (q0 := 0) (qX0_scoreOf l D cy a o S p1 x11 e12) ⟨hx, hb, hml, hown, hts⟩ (cwV 1 hts gX0_tellOfEntrant_X0_scoreOf rfl rfl rfl (by decide +kernel) ⟨Nat.le_of_ble_eq_true rfl, Nat.le_of_ble_eq_true rfl⟩) hG hP rfl rfl rfl hl.1 rfl (Nat.le_of_ble_eq_true rfl) dX0_tellOfEntrant_87 ⟨Nat.zero_le _, Nat.zero_le _⟩ ?_
    exact W.iret (v := x11) hx hb hr (fun t ht hW => ⟨x11, rfl, some_in h, ht⟩) (fun q hq => nomatch hq) dX0_tellOfEntrant_90
  have h := ite_n c4 h
  by_cases c5 : p2 = (5 : Int32)
  · have h := ite_p c5 h
    refine lv_tableIn (tgt := 91) (off := 90) hx hb dX0_tellOfEntrant_1 (by rw [c5]; decide) (by rw [c5]; decide) (by rw [c5]; rfl) (by decide) ?_
    refine lv_aload_n hx hb dX0_tellOfEntrant_91 rfl (lv_at hl 0 rfl) ?_
    refine lv_iload_n hx hb dX0_tellOfEntrant_92 rfl (lv_at hl 1 rfl) ?_
    obtain ⟨x13, e14, h⟩ := bd_some h
    refine pcV (As := [.int p1]) (rest := []) (q0 := 0) (qX0_isComplete l D cy a o S p1 x13 e14) ⟨hx, hb, hml, hown, hts⟩ (cwV 1 hts gX0_tellOfEntrant_X0_isComplete rfl rfl rfl (by decide +kernel) ⟨Nat.le_of_ble_eq_true rfl, Nat.le_of_ble_eq_true rfl⟩) hG hP rfl rfl rfl hl.1 rfl (Nat.le_of_ble_eq_true rfl) dX0_tellOfEntrant_93 ⟨Nat.zero_le _, Nat.zero_le _⟩ ?_
    obtain ⟨j16, hj16, h⟩ := jn_elim h
    have Jj16 : ∀ (x15 : Int32) (ls : Array Slot), j16 x15 = some rs → lv_has ls 3 [] → W p l e (headSpec wsX0_tellOfEntrant ({ frames := 4, cells := 0, slots := 0, locals := 99 } : Room)).room s m ([.ref (a o), .int p1, .int p2] : List Value).toArray below meth c s.heap [] 0 0 (MQ below (vp_Si (fun z => z = rs)) ([.ref (a o), .int p1, .int p2] : List Value).toArray s 0 0 (fun _ => False)) (F0 m 104 ls [.int x15]) := by
      intro x15 ls h hl
      rw [hj16] at h
      exact W.iret (v := x15) hx hb hr (fun t ht hW => ⟨x15, rfl, some_in h, ht⟩) (fun q hq => nomatch hq) dX0_tellOfEntrant_104
    refine lv_if_eq (tgt := 103) hx hb dX0_tellOfEntrant_96 (by decide) (fun cc => ?_) (fun cc => ?_)
    · have h := ite_p cc h
      refine lv_iconst (v := (0 : Int32)) hx hb dX0_tellOfEntrant_103 (by decide) ?_
      exact Jj16 (0 : Int32) ls h (lv_sub hl [] rfl)
    · have h := ite_n cc h
      refine lv_iconst (v := (1 : Int32)) hx hb dX0_tellOfEntrant_99 (by decide) ?_
      refine lv_goto (tgt := 104) hx hb dX0_tellOfEntrant_100 (by decide) ?_
      exact Jj16 (1 : Int32) ls h (lv_sub hl [] rfl)
  have h := ite_n c5 h
  by_cases c6 : p2 = (6 : Int32)
  · have h := ite_p c6 h
    refine lv_tableIn (tgt := 105) (off := 104) hx hb dX0_tellOfEntrant_1 (by rw [c6]; decide) (by rw [c6]; decide) (by rw [c6]; rfl) (by decide) ?_
    refine lv_aload_n hx hb dX0_tellOfEntrant_105 rfl (lv_at hl 0 rfl) ?_
    refine va_get (D := D) (ci := 0) (v := .ref (a (o + 35))) (C := RX0) (T := TX0) (N := 14) hx hb hts hinX0 hown hK hP 0 rfl rfl 11 (by decide) hf71 (fun _ h9 => h9) rfl dX0_tellOfEntrant_106 ?_
    refine lv_iload_n hx hb dX0_tellOfEntrant_109 rfl (lv_at hl 1 rfl) ?_
    obtain ⟨x17, e18, h⟩ := bd_some h
    refine pcV (As := [.int p1]) (rest := []) (q0 := 0) (qX9_has l D cy a (o + 35) (gX0_tie S) p1 x17 e18) ⟨hx, hb, hml, hown, hts⟩ (cwV 1 hts gX0_tellOfEntrant_X9_has rfl rfl rfl (by decide +kernel) ⟨Nat.le_of_ble_eq_true rfl, Nat.le_of_ble_eq_true rfl⟩) hG (P_seg (X := ((hX0 a o S) ++ ((wX10 cy a (o + 1) (gX0_works S)) ++ ((wX2 cy a (o + 5) (gX0_entrants S)) ++ ((rowsW (cy 2) (cy 0) a (o + 7) 4 6 (gX0_rules S)) ++ ((wX4 cy a (o + 12) (gX0_programs S)) ++ ((wX3 cy a (o + 14) (gX0_jury S)) ++ ((wX7 cy a (o + 23) (gX0_stage S)) ++ (wX6 cy a (o + 26) (gX0_sheet S)))))))))) (c := (wX9 cy a (o + 35) (gX0_tie S))) (Y := ((rowsW (cy 2) (cy 0) a (o + 46) 4 12 (gX0_closedScores S)) ++ (wX1 cy a (o + 51) (gX0_cut S)))) hP (by simp only [wX0, List.append_assoc, List.nil_append, List.append_nil] <;> rfl)) rfl rfl rfl hl.1 rfl (Nat.le_of_ble_eq_true rfl) dX0_tellOfEntrant_110 ⟨Nat.zero_le _, Nat.zero_le _⟩ ?_
    obtain ⟨j20, hj20, h⟩ := jn_elim h
    have Jj20 : ∀ (x19 : Int32) (ls : Array Slot), j20 x19 = some rs → lv_has ls 3 [] → W p l e (headSpec wsX0_tellOfEntrant ({ frames := 4, cells := 0, slots := 0, locals := 99 } : Room)).room s m ([.ref (a o), .int p1, .int p2] : List Value).toArray below meth c s.heap [] 0 0 (MQ below (vp_Si (fun z => z = rs)) ([.ref (a o), .int p1, .int p2] : List Value).toArray s 0 0 (fun _ => False)) (F0 m 121 ls [.int x19]) := by
      intro x19 ls h hl
      rw [hj20] at h
      exact W.iret (v := x19) hx hb hr (fun t ht hW => ⟨x19, rfl, some_in h, ht⟩) (fun q hq => nomatch hq) dX0_tellOfEntrant_121
    refine lv_if_eq (tgt := 120) hx hb dX0_tellOfEntrant_113 (by decide) (fun cc => ?_) (fun cc => ?_)
    · have h := ite_p cc h
      refine lv_iconst (v := (0 : Int32)) hx hb dX0_tellOfEntrant_120 (by decide) ?_
      exact Jj20 (0 : Int32) ls h (lv_sub hl [] rfl)
    · have h := ite_n cc h
      refine lv_iconst (v := (1 : Int32)) hx hb dX0_tellOfEntrant_116 (by decide) ?_
      refine lv_goto (tgt := 121) hx hb dX0_tellOfEntrant_117 (by decide) ?_
      exact Jj20 (1 : Int32) ls h (lv_sub hl [] rfl)
  have h := ite_n c6 h
  refine lv_tableOut (tgt := 122) hx hb dX0_tellOfEntrant_1 (by have n0 := lv_neT (a := 0) c0 (by decide); have n1 := lv_neT (a := 1) c1 (by decide); have n2 := lv_neT (a := 2) c2 (by decide); have n3 := lv_neT (a := 3) c3 (by decide); have n4 := lv_neT (a := 4) c4 (by decide); have n5 := lv_neT (a := 5) c5 (by decide); have n6 := lv_neT (a := 6) c6 (by decide); omega) (by decide) ?_
  refine lv_aload_n hx hb dX0_tellOfEntrant_122 rfl (lv_at hl 0 rfl) ?_
  refine va_get (D := D) (ci := 0) (v := .ref (a (o + 14))) (C := RX0) (T := TX0) (N := 14) hx hb hts hinX0 hown hK hP 0 rfl rfl 8 (by decide) hf50 (fun _ h9 => h9) rfl dX0_tellOfEntrant_123 ?_
  refine lv_aload_n hx hb dX0_tellOfEntrant_126 rfl (lv_at hl 0 rfl) ?_
  refine va_get (D := D) (ci := 0) (v := .ref (a (o + 35))) (C := RX0) (T := TX0) (N := 14) hx hb hts hinX0 hown hK hP 0 rfl rfl 11 (by decide) hf71 (fun _ h9 => h9) rfl dX0_tellOfEntrant_127 ?_
  refine va_getN (D := D) (ci := 9) (v := .ref (a (o + 35 + 2))) (C := RX9) (T := TX9) (N := 4) hx hb hts hinX9 hown hK hP 35 rfl rfl 3 (by decide) hf176 (fun _ h9 => h9) rfl dX0_tellOfEntrant_130 ?_
  refine lv_iload_n hx hb dX0_tellOfEntrant_133 rfl (lv_at hl 1 rfl) ?_
  obtain ⟨x21, e22, h⟩ := bd_some h
  refine pcV (As := [.ref (a (o + 35 + 2)), .int p1]) (rest := []) (q0 := 0) (qX3_meanOf l D cy a (o + 14) a (o + 35 + 2) (gX0_jury S) (gX9_sheet (gX0_tie S)) p1 x21 e22) ⟨hx, hb, hml, hown, hts⟩ (cwV 2 hts gX0_tellOfEntrant_X3_meanOf rfl rfl rfl (by decide +kernel) ⟨Nat.le_of_ble_eq_true rfl, Nat.le_of_ble_eq_true rfl⟩) hG (va_P.app (P_seg (X := ((hX0 a o S) ++ ((wX10 cy a (o + 1) (gX0_works S)) ++ ((wX2 cy a (o + 5) (gX0_entrants S)) ++ ((rowsW (cy 2) (cy 0) a (o + 7) 4 6 (gX0_rules S)) ++ (wX4 cy a (o + 12) (gX0_programs S))))))) (c := (wX3 cy a (o + 14) (gX0_jury S))) (Y := ((wX7 cy a (o + 23) (gX0_stage S)) ++ ((wX6 cy a (o + 26) (gX0_sheet S)) ++ ((wX9 cy a (o + 35) (gX0_tie S)) ++ ((rowsW (cy 2) (cy 0) a (o + 46) 4 12 (gX0_closedScores S)) ++ (wX1 cy a (o + 51) (gX0_cut S))))))) hP (by simp only [wX0, List.append_assoc, List.nil_append, List.append_nil] <;> rfl)) (P_seg (X := ((hX0 a o S) ++ ((wX10 cy a (o + 1) (gX0_works S)) ++ ((wX2 cy a (o + 5) (gX0_entrants S)) ++ ((rowsW (cy 2) (cy 0) a (o + 7) 4 6 (gX0_rules S)) ++ ((wX4 cy a (o + 12) (gX0_programs S)) ++ ((wX3 cy a (o + 14) (gX0_jury S)) ++ ((wX7 cy a (o + 23) (gX0_stage S)) ++ ((wX6 cy a (o + 26) (gX0_sheet S)) ++ ((hX9 a (o + 35) (gX0_tie S)) ++ (aW cy a (o + 35 + 1) 12 (gX9_tied (gX0_tie S))))))))))))) (c := (wX6 cy a (o + 35 + 2) (gX9_sheet (gX0_tie S)))) (Y := ((rowsW (cy 2) (cy 0) a (o + 46) 4 12 (gX0_closedScores S)) ++ (wX1 cy a (o + 51) (gX0_cut S)))) hP (by simp only [wX0, wX9, List.append_assoc, List.nil_append, List.append_nil] <;> rfl))) rfl rfl rfl hl.1 rfl (Nat.le_of_ble_eq_true rfl) dX0_tellOfEntrant_134 ⟨Nat.zero_le _, Nat.zero_le _⟩ ?_
  exact W.iret (v := x21) hx hb hr (fun t ht hW => ⟨x21, rfl, some_in h, ht⟩) (fun q hq => nomatch hq) dX0_tellOfEntrant_137
