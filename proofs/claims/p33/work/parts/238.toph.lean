set_option maxHeartbeats 4000000 in
set_option maxRecDepth 100000 in
theorem qX11_mixEntrant (l : Launch) (D : va_G) (cy : Nat → ClassId) (a : Nat → Nat) (o : Nat) (S : SX11n) (p1 : Int64) (p3 : Int32) (rs : Int64) (h : DX11_mixEntrant S p1 p3 = some rs) : Met l yX11_mixEntrant wsX11_mixEntrant ({ frames := 5, cells := 0, slots := 0, locals := 121 } : Room) (va_Pc [.ref (a o), .long p1, .int p3] (fun U => va_P D vwCl (wX11n cy a o S) U.heap ∧ gK D cy U)) (vp_Sl (fun z => z = rs)) 0 0 (fun _ => False) := by
  refine Met.ofW (cc := cX11_mixEntrant) (maxL := 7) (ret := (some .long)) (by decide) rfl ?_
  intro p e s m args below meth c s₁ B hml hv
  obtain ⟨rfl, hP, hG⟩ := hv
  have hx := B.exec
  have hb := B.bytes
  have hr := B.returns
  have hts := atoms_spec (ws := wsX11_mixEntrant) B.pre
  have hown : s.vm.findClass RX11 = some m.cls := findClass_of_methodNamed B.named
  have hlocks := B.notSynchronized
  have hK := hG.1
  have hinX11 := (by decide +kernel : ∀ w ∈ wsX110, w ∈ wsX11_mixEntrant)
  have hf10 := hts (.fieldLink RX11 10 "PianoRounds" "now" "LPianoRounds$Competition;") (by decide +kernel)
  have hl := lv_entry ([.ref (a o), .long p1, .int p3]) (n := 7) (Nat.le_of_ble_eq_true rfl)
  rw [lg_entry_eq]
  generalize (lg_sl ([.ref (a o), .long p1, .int p3]) ++ List.replicate (7 - (lg_sl ([.ref (a o), .long p1, .int p3])).length) Slot.unset).toArray = ls at hl ⊢
  have hl : lv_has ls 7 [(0, .ref (a o)), (1, .long p1), (3, .int p3)] := hl
  rw [DX11_mixEntrant] at h
  refine lv_lload_n hx hb dX11_mixEntrant_0 rfl (lv_at hl 1 rfl) ?_
  refine lv_lstore (lv' := [(4, .long p1), (0, .ref (a o)), (1, .long p1), (3, .int p3)]) hx hb dX11_mixEntrant_1 hl (by decide) rfl (fun ls hl => ?_)
  refine lv_iconst (v := (0 : Int32)) hx hb dX11_mixEntrant_3 (by decide) ?_
  refine lv_istore (lv' := [(6, .int (0 : Int32)), (4, .long p1), (0, .ref (a o)), (1, .long p1), (3, .int p3)]) hx hb dX11_mixEntrant_4 hl (by decide) rfl (fun ls hl => ?_)
  have L11 : ∀ (c3_1 : Int32) (k2 : Int64 → Option (Int64)) (hk2 : ∀ (v4_3 : Int64) (ls : Array Slot), k2 v4_3 = some rs → lv_has ls 7 [(4, .long v4_3)] → W p l e (headSpec wsX11_mixEntrant ({ frames := 5, cells := 0, slots := 0, locals := 121 } : Room)).room s m ([.ref (a o), .long p1, .int p3] : List Value).toArray below meth c s.heap [] 0 0 (MQ below (vp_Sl (fun z => z = rs)) ([.ref (a o), .long p1, .int p3] : List Value).toArray s 0 0 (fun _ => False)) (F0 m 36 ls [])) (f : Nat) (v4_5 : Int64) (v6_6 : Int32) (ls : Array Slot), DX11_mixEntrant_L6 S c3_1 k2 f v4_5 v6_6 = some rs → lv_has ls 7 [(0, .ref (a o)), (3, .int c3_1), (4, .long v4_5), (6, .int v6_6)] → W p l e (headSpec wsX11_mixEntrant ({ frames := 5, cells := 0, slots := 0, locals := 121 } : Room)).room s m ([.ref (a o), .long p1, .int p3] : List Value).toArray below meth c s.heap [] 0 0 (MQ below (vp_Sl (fun z => z = rs)) ([.ref (a o), .long p1, .int p3] : List Value).toArray s 0 0 (fun _ => False)) (F0 m 6 ls []) := by
    intro c3_1 k2 hk2 f
    induction f with
    | zero =>
      intro v4_5 v6_6 ls h hl
      rw [DX11_mixEntrant_L6] at h
      cases h
    | succ f ih =>
      intro v4_5 v6_6 ls h hl
      rw [DX11_mixEntrant_L6] at h
      refine lv_iload hx hb dX11_mixEntrant_6 (lv_at hl 3 rfl) ?_
      refine lv_bipush (v := (8 : Int32)) hx hb dX11_mixEntrant_8 (by decide) ?_
      refine lv_icmp_ge (tgt := 36) hx hb dX11_mixEntrant_10 (by decide) (fun cc => ?_) (fun cc => ?_)
      · have h := ite_p cc h
        exact hk2 v4_5 ls h (lv_sub hl [2] rfl)
      · have h := ite_n cc h
        refine lv_lload hx hb dX11_mixEntrant_13 (lv_at hl 2 rfl) ?_
        refine lv_aload_n hx hb dX11_mixEntrant_15 rfl (lv_at hl 0 rfl) ?_
        refine va_get (D := D) (ci := 11) (v := .ref (a (o + 1))) (C := RX11) (T := TX11) (N := 3) hx hb hts hinX11 hown hK hP 0 rfl rfl 0 (by decide) hf10 (fun _ h9 => h9) rfl dX11_mixEntrant_16 ?_
        refine lv_iload_n hx hb dX11_mixEntrant_19 rfl (lv_at hl 1 rfl) ?_
        refine lv_iload hx hb dX11_mixEntrant_20 (lv_at hl 3 rfl) ?_
        obtain ⟨x7, e8, h⟩ := bd_some h
        refine pcV (As := [.int c3_1, .int v6_6]) (rest := [.long v4_5]) (q0 := 0) (qX0_tellOfEntrant l D cy a (o + 1) (gX11n_now S) c3_1 v6_6 x7 e8) ⟨hx, hb, hml, hown, hts⟩ (cwV 2 hts gX11_mixEntrant_X0_tellOfEntrant rfl rfl rfl (by decide +kernel) ⟨Nat.le_of_ble_eq_true rfl, Nat.le_of_ble_eq_true rfl⟩) hG (P_seg (X := (hX11n a o S)) (c := (wX0 cy a (o + 1) (gX11n_now S))) (Y := ([] : va_W)) hP (by simp only [wX11n, List.append_assoc, List.nil_append, List.append_nil] <;> rfl)) rfl rfl rfl hl.1 rfl (Nat.le_of_ble_eq_true rfl) dX11_mixEntrant_22 ⟨Nat.zero_le _, Nat.zero_le _⟩ ?_
        obtain ⟨x9, e10, h⟩ := bd_some h
        refine pcSl (As := [.long v4_5, .int x7]) (rest := []) (qX11_mix l D cy  v4_5 x7 x9 e10) ⟨hx, hb, hml, hown, hts⟩ (va_cwS 2 hts gX11_mixEntrant_X11_mix rfl rfl rfl (by decide +kernel) ⟨Nat.le_of_ble_eq_true rfl, Nat.le_of_ble_eq_true rfl⟩) hG (hP.sub [] rfl) rfl hl.1 rfl (Nat.le_of_ble_eq_true rfl) dX11_mixEntrant_25 ⟨Nat.zero_le _, Nat.zero_le _⟩ ?_
        refine lv_lstore (lv' := [(4, .long x9), (0, .ref (a o)), (3, .int c3_1), (6, .int v6_6)]) hx hb dX11_mixEntrant_28 hl (by decide) rfl (fun ls hl => ?_)
        refine lv_iinc (v := (v6_6 + (1 : Int32))) (lv' := [(6, .int (v6_6 + (1 : Int32))), (4, .long x9), (0, .ref (a o)), (3, .int c3_1)]) hx hb dX11_mixEntrant_30 hl (k := 3) rfl (by rfl) (by decide) rfl (fun ls hl => ?_)
        refine lv_goto (tgt := 6) hx hb dX11_mixEntrant_33 (by decide) ?_
        exact ih x9 (v6_6 + (1 : Int32)) ls h (lv_sub hl [2, 3, 1, 0] rfl)
  refine L11 p3 _ ?_ fu p1 (0 : Int32) ls h (lv_sub hl [2, 4, 1, 0] rfl)
  intro v4_4 ls h hl
  refine lv_lload hx hb dX11_mixEntrant_36 (lv_at hl 0 rfl) ?_
  exact W.lret (v := v4_4) hx hb hr (fun t ht hW => ⟨v4_4, rfl, some_in h, ht⟩) (fun q hq => nomatch hq) dX11_mixEntrant_38
set_option maxHeartbeats 4000000 in
set_option maxRecDepth 100000 in
theorem qX11_mixPrograms (l : Launch) (D : va_G) (cy : Nat → ClassId) (a : Nat → Nat) (o : Nat) (S : SX11n) (p1 : Int64) (p3 : Int32) (rs : Int64) (h : DX11_mixPrograms S p1 p3 = some rs) : Met l yX11_mixPrograms wsX11_mixPrograms ({ frames := 4, cells := 0, slots := 0, locals := 99 } : Room) (va_Pc [.ref (a o), .long p1, .int p3] (fun U => va_P D vwCl (wX11n cy a o S) U.heap ∧ gK D cy U)) (vp_Sl (fun z => z = rs)) 0 0 (fun _ => False) := by
  refine Met.ofW (cc := cX11_mixPrograms) (maxL := 8) (ret := (some .long)) (by decide) rfl ?_
  intro p e s m args below meth c s₁ B hml hv
  obtain ⟨rfl, hP, hG⟩ := hv
  have hx := B.exec
  have hb := B.bytes
  have hr := B.returns
  have hts := atoms_spec (ws := wsX11_mixPrograms) B.pre
  have hown : s.vm.findClass RX11 = some m.cls := findClass_of_methodNamed B.named
  have hlocks := B.notSynchronized
  have hK := hG.1
  have hinX11 := (by decide +kernel : ∀ w ∈ wsX110, w ∈ wsX11_mixPrograms)
  have hf10 := hts (.fieldLink RX11 10 "PianoRounds" "now" "LPianoRounds$Competition;") (by decide +kernel)
  have hinX0 := (by decide +kernel : ∀ w ∈ wsX00, w ∈ wsX11_mixPrograms)
  have hf135 := va_Nw.use (A := ([.ref (a o), .long p1, .int p3] : List Value).toArray) (U := s) (w := .fieldLinkNest "PianoRounds" 135 "PianoRounds$Competition" "programs" "LPianoRounds$Programs;" "PianoRounds") rfl (hG.2.1 _ (by decide +kernel))
  have hf125 := va_Nw.use (A := ([.ref (a o), .long p1, .int p3] : List Value).toArray) (U := s) (w := .fieldLinkNest "PianoRounds" 125 "PianoRounds$Competition" "rules" "[[I" "PianoRounds") rfl (hG.2.1 _ (by decide +kernel))
  have hf42 := va_Nw.use (A := ([.ref (a o), .long p1, .int p3] : List Value).toArray) (U := s) (w := .fieldLinkNest "PianoRounds" 42 "PianoRounds$Competition" "works" "LPianoRounds$Works;" "PianoRounds") rfl (hG.2.1 _ (by decide +kernel))
  have hf249 := va_Nw.use (A := ([.ref (a o), .long p1, .int p3] : List Value).toArray) (U := s) (w := .fieldLinkNest "PianoRounds" 249 "PianoRounds$Competition" "closedScores" "[[I" "PianoRounds") rfl (hG.2.1 _ (by decide +kernel))
  have hl := lv_entry ([.ref (a o), .long p1, .int p3]) (n := 8) (Nat.le_of_ble_eq_true rfl)
  rw [lg_entry_eq]
  generalize (lg_sl ([.ref (a o), .long p1, .int p3]) ++ List.replicate (8 - (lg_sl ([.ref (a o), .long p1, .int p3])).length) Slot.unset).toArray = ls at hl ⊢
  have hl : lv_has ls 8 [(0, .ref (a o)), (1, .long p1), (3, .int p3)] := hl
  rw [DX11_mixPrograms] at h
  refine lv_lload_n hx hb dX11_mixPrograms_0 rfl (lv_at hl 1 rfl) ?_
  refine lv_lstore (lv' := [(4, .long p1), (0, .ref (a o)), (1, .long p1), (3, .int p3)]) hx hb dX11_mixPrograms_1 hl (by decide) rfl (fun ls hl => ?_)
  refine lv_iconst (v := (0 : Int32)) hx hb dX11_mixPrograms_3 (by decide) ?_
  refine lv_istore (lv' := [(6, .int (0 : Int32)), (4, .long p1), (0, .ref (a o)), (1, .long p1), (3, .int p3)]) hx hb dX11_mixPrograms_4 hl (by decide) rfl (fun ls hl => ?_)
  have L27 : ∀ (c3_1 : Int32) (k2 : Int64 → Option (Int64)) (hk2 : ∀ (v4_3 : Int64) (ls : Array Slot), k2 v4_3 = some rs → lv_has ls 8 [(4, .long v4_3)] → W p l e (headSpec wsX11_mixPrograms ({ frames := 4, cells := 0, slots := 0, locals := 99 } : Room)).room s m ([.ref (a o), .long p1, .int p3] : List Value).toArray below meth c s.heap [] 0 0 (MQ below (vp_Sl (fun z => z = rs)) ([.ref (a o), .long p1, .int p3] : List Value).toArray s 0 0 (fun _ => False)) (F0 m 108 ls [])) (f : Nat) (v4_5 : Int64) (v6_6 : Int32) (ls : Array Slot), DX11_mixPrograms_L6 S c3_1 k2 f v4_5 v6_6 = some rs → lv_has ls 8 [(0, .ref (a o)), (3, .int c3_1), (4, .long v4_5), (6, .int v6_6)] → W p l e (headSpec wsX11_mixPrograms ({ frames := 4, cells := 0, slots := 0, locals := 99 } : Room)).room s m ([.ref (a o), .long p1, .int p3] : List Value).toArray below meth c s.heap [] 0 0 (MQ below (vp_Sl (fun z => z = rs)) ([.ref (a o), .long p1, .int p3] : List Value).toArray s 0 0 (fun _ => False)) (F0 m 6 ls []) := by
    intro c3_1 k2 hk2 f
    induction f with
    | zero =>
      intro v4_5 v6_6 ls h hl
      rw [DX11_mixPrograms_L6] at h
      cases h
    | succ f ih =>
      intro v4_5 v6_6 ls h hl
      rw [DX11_mixPrograms_L6] at h
      refine lv_iload hx hb dX11_mixPrograms_6 (lv_at hl 3 rfl) ?_
      refine lv_iconst (v := (4 : Int32)) hx hb dX11_mixPrograms_8 (by decide) ?_
      refine lv_icmp_ge (tgt := 108) hx hb dX11_mixPrograms_9 (by decide) (fun cc => ?_) (fun cc => ?_)
      · have h := ite_p cc h
        exact hk2 v4_5 ls h (lv_sub hl [2] rfl)
      · have h := ite_n cc h
        refine lv_lload hx hb dX11_mixPrograms_12 (lv_at hl 2 rfl) ?_
        refine lv_aload_n hx hb dX11_mixPrograms_14 rfl (lv_at hl 0 rfl) ?_
        refine va_get (D := D) (ci := 11) (v := .ref (a (o + 1))) (C := RX11) (T := TX11) (N := 3) hx hb hts hinX11 hown hK hP 0 rfl rfl 0 (by decide) hf10 (fun _ h9 => h9) rfl dX11_mixPrograms_15 ?_
        refine va_getN (D := D) (ci := 0) (v := .ref (a (o + 1 + 12))) (C := RX0) (T := TX0) (N := 14) hx hb hts hinX0 hown hK hP 1 rfl rfl 7 (by decide) hf135 (fun _ h9 => h9) rfl dX11_mixPrograms_18 ?_
        refine lv_iload_n hx hb dX11_mixPrograms_21 rfl (lv_at hl 1 rfl) ?_
        refine lv_iload hx hb dX11_mixPrograms_22 (lv_at hl 3 rfl) ?_
        refine lv_aload_n hx hb dX11_mixPrograms_24 rfl (lv_at hl 0 rfl) ?_
        refine va_get (D := D) (ci := 11) (v := .ref (a (o + 1))) (C := RX11) (T := TX11) (N := 3) hx hb hts hinX11 hown hK hP 0 rfl rfl 0 (by decide) hf10 (fun _ h9 => h9) rfl dX11_mixPrograms_25 ?_
        refine va_getN (D := D) (ci := 0) (v := .ref (a (o + 1 + 7))) (C := RX0) (T := TX0) (N := 14) hx hb hts hinX0 hown hK hP 1 rfl rfl 6 (by decide) hf125 (fun _ h9 => h9) rfl dX11_mixPrograms_28 ?_
        refine lv_aload_n hx hb dX11_mixPrograms_31 rfl (lv_at hl 0 rfl) ?_
        refine va_get (D := D) (ci := 11) (v := .ref (a (o + 1))) (C := RX11) (T := TX11) (N := 3) hx hb hts hinX11 hown hK hP 0 rfl rfl 0 (by decide) hf10 (fun _ h9 => h9) rfl dX11_mixPrograms_32 ?_
        refine va_getN (D := D) (ci := 0) (v := .ref (a (o + 1 + 1))) (C := RX0) (T := TX0) (N := 14) hx hb hts hinX0 hown hK hP 1 rfl rfl 4 (by decide) hf42 (fun _ h9 => h9) rfl dX11_mixPrograms_35 ?_
        obtain ⟨x7, e8, h⟩ := bd_some h
        refine pcV (As := [.int c3_1, .int v6_6, .ref (a (o + 1 + 7)), .ref (a (o + 1 + 1))]) (rest := [.long v4_5]) (q0 := 0) (qX4_flawOf l D cy a (o + 1 + 12) a (o + 1 + 7) a (o + 1 + 1) (gX0_programs (gX11n_now S)) (gX0_rules (gX11n_now S)) (gX0_works (gX11n_now S)) c3_1 v6_6 x7 e8) ⟨hx, hb, hml, hown, hts⟩ (cwV 4 hts gX11_mixPrograms_X4_flawOf rfl rfl rfl (by decide +kernel) ⟨Nat.le_of_ble_eq_true rfl, Nat.le_of_ble_eq_true rfl⟩) hG (va_P.app (va_P.app (P_seg (X := ((hX11n a o S) ++ ((hX0 a (o + 1) (gX11n_now S)) ++ ((wX10 cy a (o + 1 + 1) (gX0_works (gX11n_now S))) ++ ((wX2 cy a (o + 1 + 5) (gX0_entrants (gX11n_now S))) ++ (rowsW (cy 2) (cy 0) a (o + 1 + 7) 4 6 (gX0_rules (gX11n_now S)))))))) (c := (wX4 cy a (o + 1 + 12) (gX0_programs (gX11n_now S)))) (Y := ((wX3 cy a (o + 1 + 14) (gX0_jury (gX11n_now S))) ++ ((wX7 cy a (o + 1 + 23) (gX0_stage (gX11n_now S))) ++ ((wX6 cy a (o + 1 + 26) (gX0_sheet (gX11n_now S))) ++ ((wX9 cy a (o + 1 + 35) (gX0_tie (gX11n_now S))) ++ ((rowsW (cy 2) (cy 0) a (o + 1 + 46) 4 12 (gX0_closedScores (gX11n_now S))) ++ (wX1 cy a (o + 1 + 51) (gX0_cut (gX11n_now S))))))))) hP (by simp only [wX0, wX11n, List.append_assoc, List.nil_append, List.append_nil] <;> rfl)) (P_seg (X := ((hX11n a o S) ++ ((hX0 a (o + 1) (gX11n_now S)) ++ ((wX10 cy a (o + 1 + 1) (gX0_works (gX11n_now S))) ++ (wX2 cy a (o + 1 + 5) (gX0_entrants (gX11n_now S))))))) (c := (rowsW (cy 2) (cy 0) a (o + 1 + 7) 4 6 (gX0_rules (gX11n_now S)))) (Y := ((wX4 cy a (o + 1 + 12) (gX0_programs (gX11n_now S))) ++ ((wX3 cy a (o + 1 + 14) (gX0_jury (gX11n_now S))) ++ ((wX7 cy a (o + 1 + 23) (gX0_stage (gX11n_now S))) ++ ((wX6 cy a (o + 1 + 26) (gX0_sheet (gX11n_now S))) ++ ((wX9 cy a (o + 1 + 35) (gX0_tie (gX11n_now S))) ++ ((rowsW (cy 2) (cy 0) a (o + 1 + 46) 4 12 (gX0_closedScores (gX11n_now S))) ++ (wX1 cy a (o + 1 + 51) (gX0_cut (gX11n_now S)))))))))) hP (by simp only [wX0, wX11n, List.append_assoc, List.nil_append, List.append_nil] <;> rfl))) (P_seg (X := ((hX11n a o S) ++ (hX0 a (o + 1) (gX11n_now S)))) (c := (wX10 cy a (o + 1 + 1) (gX0_works (gX11n_now S)))) (Y := ((wX2 cy a (o + 1 + 5) (gX0_entrants (gX11n_now S))) ++ ((rowsW (cy 2) (cy 0) a (o + 1 + 7) 4 6 (gX0_rules (gX11n_now S))) ++ ((wX4 cy a (o + 1 + 12) (gX0_programs (gX11n_now S))) ++ ((wX3 cy a (o + 1 + 14) (gX0_jury (gX11n_now S))) ++ ((wX7 cy a (o + 1 + 23) (gX0_stage (gX11n_now S))) ++ ((wX6 cy a (o + 1 + 26) (gX0_sheet (gX11n_now S))) ++ ((wX9 cy a (o + 1 + 35) (gX0_tie (gX11n_now S))) ++ ((rowsW (cy 2) (cy 0) a (o + 1 + 46) 4 12 (gX0_closedScores (gX11n_now S))) ++ (wX1 cy a (o + 1 + 51) (gX0_cut (gX11n_now S)))))))))))) hP (by simp only [wX0, wX11n, List.append_assoc, List.nil_append, List.append_nil] <;> rfl))) rfl rfl rfl hl.1 rfl (Nat.le_of_ble_eq_true rfl) dX11_mixPrograms_38 ⟨Nat.zero_le _, Nat.zero_le _⟩ ?_
        obtain ⟨x9, e10, h⟩ := bd_some h
        refine pcSl (As := [.long v4_5, .int x7]) (rest := []) (qX11_mix l D cy  v4_5 x7 x9 e10) ⟨hx, hb, hml, hown, hts⟩ (va_cwS 2 hts gX11_mixPrograms_X11_mix rfl rfl rfl (by decide +kernel) ⟨Nat.le_of_ble_eq_true rfl, Nat.le_of_ble_eq_true rfl⟩) hG (hP.sub [] rfl) rfl hl.1 rfl (Nat.le_of_ble_eq_true rfl) dX11_mixPrograms_41 ⟨Nat.zero_le _, Nat.zero_le _⟩ ?_
        refine lv_lstore (lv' := [(4, .long x9), (0, .ref (a o)), (3, .int c3_1), (6, .int v6_6)]) hx hb dX11_mixPrograms_44 hl (by decide) rfl (fun ls hl => ?_)
        refine lv_lload hx hb dX11_mixPrograms_46 (lv_at hl 0 rfl) ?_
        refine lv_aload_n hx hb dX11_mixPrograms_48 rfl (lv_at hl 1 rfl) ?_
        refine va_get (D := D) (ci := 11) (v := .ref (a (o + 1))) (C := RX11) (T := TX11) (N := 3) hx hb hts hinX11 hown hK hP 0 rfl rfl 0 (by decide) hf10 (fun _ h9 => h9) rfl dX11_mixPrograms_49 ?_
        refine va_getN (D := D) (ci := 0) (v := .ref (a (o + 1 + 46))) (C := RX0) (T := TX0) (N := 14) hx hb hts hinX0 hown hK hP 1 rfl rfl 12 (by decide) hf249 (fun _ h9 => h9) rfl dX11_mixPrograms_52 ?_
        refine lv_iload hx hb dX11_mixPrograms_55 (lv_at hl 3 rfl) ?_
        obtain ⟨g11, h⟩ := gd_some h
        refine r_aldR (n := 4) (o := o + 1 + 46) (ad := a) (j := (v6_6).toNatClampNeg) hx hb hK hP 47 2 rfl rfl (gIn_in g11) rfl dX11_mixPrograms_57 ?_
        refine lv_iload_n hx hb dX11_mixPrograms_58 rfl (lv_at hl 2 rfl) ?_
        obtain ⟨g12, h⟩ := gd_some h
        refine r_ald (f := ((gX0_closedScores (gX11n_now S)) ((v6_6).toNatClampNeg))) (n := 12) (v := (((gX0_closedScores (gX11n_now S)) ((v6_6).toNatClampNeg)) ((c3_1).toNatClampNeg))) hx hb hK hP (47 + 1 + ((v6_6).toNatClampNeg)) 0 (all4 (P := fun j => (wX11n cy a o S)[47 + 1 + j]? = some (a (o + 1 + 46 + 1 + j), .inl (cy 0, 12, .inl ((gX0_closedScores (gX11n_now S)) j)))) rfl rfl rfl rfl _ (gIn_lt g11)) rfl (gIn_in g12) rfl dX11_mixPrograms_59 ?_
        obtain ⟨x13, e14, h⟩ := bd_some h
        refine pcSl (As := [.long x9, .int (((gX0_closedScores (gX11n_now S)) ((v6_6).toNatClampNeg)) ((c3_1).toNatClampNeg))]) (rest := []) (qX11_mix l D cy  x9 (((gX0_closedScores (gX11n_now S)) ((v6_6).toNatClampNeg)) ((c3_1).toNatClampNeg)) x13 e14) ⟨hx, hb, hml, hown, hts⟩ (va_cwS 2 hts gX11_mixPrograms_X11_mix rfl rfl rfl (by decide +kernel) ⟨Nat.le_of_ble_eq_true rfl, Nat.le_of_ble_eq_true rfl⟩) hG (hP.sub [] rfl) rfl hl.1 rfl (Nat.le_of_ble_eq_true rfl) dX11_mixPrograms_60 ⟨Nat.zero_le _, Nat.zero_le _⟩ ?_
        refine lv_lstore (lv' := [(4, .long x13), (0, .ref (a o)), (3, .int c3_1), (6, .int v6_6)]) hx hb dX11_mixPrograms_63 hl (by decide) rfl (fun ls hl => ?_)
        refine lv_iconst (v := (0 : Int32)) hx hb dX11_mixPrograms_65 (by decide) ?_
        refine lv_istore (lv' := [(7, .int (0 : Int32)), (4, .long x13), (0, .ref (a o)), (3, .int c3_1), (6, .int v6_6)]) hx hb dX11_mixPrograms_66 hl (by decide) rfl (fun ls hl => ?_)
        have L26 : ∀ (c3_15 : Int32) (c6_16 : Int32) (k17 : Int64 → Option (Int64)) (hk17 : ∀ (v4_18 : Int64) (ls : Array Slot), k17 v4_18 = some rs → lv_has ls 8 [(0, .ref (a o)), (3, .int c3_15), (4, .long v4_18), (6, .int c6_16)] → W p l e (headSpec wsX11_mixPrograms ({ frames := 4, cells := 0, slots := 0, locals := 99 } : Room)).room s m ([.ref (a o), .long p1, .int p3] : List Value).toArray below meth c s.heap [] 0 0 (MQ below (vp_Sl (fun z => z = rs)) ([.ref (a o), .long p1, .int p3] : List Value).toArray s 0 0 (fun _ => False)) (F0 m 102 ls [])) (f : Nat) (v4_20 : Int64) (v7_21 : Int32) (ls : Array Slot), DX11_mixPrograms_L68 S c3_15 c6_16 k17 f v4_20 v7_21 = some rs → lv_has ls 8 [(0, .ref (a o)), (3, .int c3_15), (4, .long v4_20), (6, .int c6_16), (7, .int v7_21)] → W p l e (headSpec wsX11_mixPrograms ({ frames := 4, cells := 0, slots := 0, locals := 99 } : Room)).room s m ([.ref (a o), .long p1, .int p3] : List Value).toArray below meth c s.heap [] 0 0 (MQ below (vp_Sl (fun z => z = rs)) ([.ref (a o), .long p1, .int p3] : List Value).toArray s 0 0 (fun _ => False)) (F0 m 68 ls []) := by
          intro c3_15 c6_16 k17 hk17 f
          induction f with
          | zero =>
            intro v4_20 v7_21 ls h hl
            rw [DX11_mixPrograms_L68] at h
            cases h
          | succ f ih =>
            intro v4_20 v7_21 ls h hl
            rw [DX11_mixPrograms_L68] at h
            refine lv_iload hx hb dX11_mixPrograms_68 (lv_at hl 4 rfl) ?_
            refine lv_iconst (v := (4 : Int32)) hx hb dX11_mixPrograms_70 (by decide) ?_
            refine lv_icmp_ge (tgt := 102) hx hb dX11_mixPrograms_71 (by decide) (fun cc => ?_) (fun cc => ?_)
            · have h := ite_p cc h
              exact hk17 v4_20 ls h (lv_sub hl [0, 1, 2, 3] rfl)
            · have h := ite_n cc h
              refine lv_lload hx hb dX11_mixPrograms_74 (lv_at hl 2 rfl) ?_
              refine lv_aload_n hx hb dX11_mixPrograms_76 rfl (lv_at hl 0 rfl) ?_
              refine va_get (D := D) (ci := 11) (v := .ref (a (o + 1))) (C := RX11) (T := TX11) (N := 3) hx hb hts hinX11 hown hK hP 0 rfl rfl 0 (by decide) hf10 (fun _ h9 => h9) rfl dX11_mixPrograms_77 ?_
              refine va_getN (D := D) (ci := 0) (v := .ref (a (o + 1 + 12))) (C := RX0) (T := TX0) (N := 14) hx hb hts hinX0 hown hK hP 1 rfl rfl 7 (by decide) hf135 (fun _ h9 => h9) rfl dX11_mixPrograms_80 ?_
              refine lv_iload_n hx hb dX11_mixPrograms_83 rfl (lv_at hl 1 rfl) ?_
              refine lv_iload hx hb dX11_mixPrograms_84 (lv_at hl 3 rfl) ?_
              refine lv_iload hx hb dX11_mixPrograms_86 (lv_at hl 4 rfl) ?_
              obtain ⟨x22, e23, h⟩ := bd_some h
              refine pcV (As := [.int c3_15, .int c6_16, .int v7_21]) (rest := [.long v4_20]) (q0 := 0) (qX4_workAt l D cy a (o + 1 + 12) (gX0_programs (gX11n_now S)) c3_15 c6_16 v7_21 x22 e23) ⟨hx, hb, hml, hown, hts⟩ (cwV 3 hts gX11_mixPrograms_X4_workAt rfl rfl rfl (by decide +kernel) ⟨Nat.le_of_ble_eq_true rfl, Nat.le_of_ble_eq_true rfl⟩) hG (P_seg (X := ((hX11n a o S) ++ ((hX0 a (o + 1) (gX11n_now S)) ++ ((wX10 cy a (o + 1 + 1) (gX0_works (gX11n_now S))) ++ ((wX2 cy a (o + 1 + 5) (gX0_entrants (gX11n_now S))) ++ (rowsW (cy 2) (cy 0) a (o + 1 + 7) 4 6 (gX0_rules (gX11n_now S)))))))) (c := (wX4 cy a (o + 1 + 12) (gX0_programs (gX11n_now S)))) (Y := ((wX3 cy a (o + 1 + 14) (gX0_jury (gX11n_now S))) ++ ((wX7 cy a (o + 1 + 23) (gX0_stage (gX11n_now S))) ++ ((wX6 cy a (o + 1 + 26) (gX0_sheet (gX11n_now S))) ++ ((wX9 cy a (o + 1 + 35) (gX0_tie (gX11n_now S))) ++ ((rowsW (cy 2) (cy 0) a (o + 1 + 46) 4 12 (gX0_closedScores (gX11n_now S))) ++ (wX1 cy a (o + 1 + 51) (gX0_cut (gX11n_now S))))))))) hP (by simp only [wX0, wX11n, List.append_assoc, List.nil_append, List.append_nil] <;> rfl)) rfl rfl rfl hl.1 rfl (Nat.le_of_ble_eq_true rfl) dX11_mixPrograms_88 ⟨Nat.zero_le _, Nat.zero_le _⟩ ?_
              obtain ⟨x24, e25, h⟩ := bd_some h
              refine pcSl (As := [.long v4_20, .int x22]) (rest := []) (qX11_mix l D cy  v4_20 x22 x24 e25) ⟨hx, hb, hml, hown, hts⟩ (va_cwS 2 hts gX11_mixPrograms_X11_mix rfl rfl rfl (by decide +kernel) ⟨Nat.le_of_ble_eq_true rfl, Nat.le_of_ble_eq_true rfl⟩) hG (hP.sub [] rfl) rfl hl.1 rfl (Nat.le_of_ble_eq_true rfl) dX11_mixPrograms_91 ⟨Nat.zero_le _, Nat.zero_le _⟩ ?_
              refine lv_lstore (lv' := [(4, .long x24), (0, .ref (a o)), (3, .int c3_15), (6, .int c6_16), (7, .int v7_21)]) hx hb dX11_mixPrograms_94 hl (by decide) rfl (fun ls hl => ?_)
              refine lv_iinc (v := (v7_21 + (1 : Int32))) (lv' := [(7, .int (v7_21 + (1 : Int32))), (4, .long x24), (0, .ref (a o)), (3, .int c3_15), (6, .int c6_16)]) hx hb dX11_mixPrograms_96 hl (k := 4) rfl (by rfl) (by decide) rfl (fun ls hl => ?_)
              refine lv_goto (tgt := 68) hx hb dX11_mixPrograms_99 (by decide) ?_
              exact ih x24 (v7_21 + (1 : Int32)) ls h (lv_sub hl [2, 3, 1, 4, 0] rfl)
        refine L26 c3_1 v6_6 _ ?_ fu x13 (0 : Int32) ls h (lv_sub hl [2, 3, 1, 4, 0] rfl)
        intro v4_19 ls h hl
        refine lv_iinc (v := (v6_6 + (1 : Int32))) (lv' := [(6, .int (v6_6 + (1 : Int32))), (0, .ref (a o)), (3, .int c3_1), (4, .long v4_19)]) hx hb dX11_mixPrograms_102 hl (k := 3) rfl (by rfl) (by decide) rfl (fun ls hl => ?_)
        refine lv_goto (tgt := 6) hx hb dX11_mixPrograms_105 (by decide) ?_
        exact ih v4_19 (v6_6 + (1 : Int32)) ls h (lv_sub hl [1, 2, 3, 0] rfl)
  refine L27 p3 _ ?_ fu p1 (0 : Int32) ls h (lv_sub hl [2, 4, 1, 0] rfl)
  intro v4_4 ls h hl
  refine lv_lload hx hb dX11_mixPrograms_108 (lv_at hl 0 rfl) ?_
  exact W.lret (v := v4_4) hx hb hr (fun t ht hW => ⟨v4_4, rfl, some_in h, ht⟩) (fun q hq => nomatch hq) dX11_mixPrograms_110
set_option maxHeartbeats 4000000 in
set_option maxRecDepth 100000 in
theorem qX11_mixSheets (l : Launch) (D : va_G) (cy : Nat → ClassId) (a : Nat → Nat) (o : Nat) (S : SX11n) (p1 : Int64) (p3 : Int32) (rs : Int64) (h : DX11_mixSheets S p1 p3 = some rs) : Met l yX11_mixSheets wsX11_mixSheets ({ frames := 1, cells := 0, slots := 0, locals := 23 } : Room) (va_Pc [.ref (a o), .long p1, .int p3] (fun U => va_P D vwCl (wX11n cy a o S) U.heap ∧ gK D cy U)) (vp_Sl (fun z => z = rs)) 0 0 (fun _ => False) := by
  refine Met.ofW (cc := cX11_mixSheets) (maxL := 7) (ret := (some .long)) (by decide) rfl ?_
  intro p e s m args below meth c s₁ B hml hv
  obtain ⟨rfl, hP, hG⟩ := hv
  have hx := B.exec
  have hb := B.bytes
  have hr := B.returns
  have hts := atoms_spec (ws := wsX11_mixSheets) B.pre
  have hown : s.vm.findClass RX11 = some m.cls := findClass_of_methodNamed B.named
  have hlocks := B.notSynchronized
  have hK := hG.1
  have hinX11 := (by decide +kernel : ∀ w ∈ wsX110, w ∈ wsX11_mixSheets)
  have hf10 := hts (.fieldLink RX11 10 "PianoRounds" "now" "LPianoRounds$Competition;") (by decide +kernel)
  have hinX0 := (by decide +kernel : ∀ w ∈ wsX00, w ∈ wsX11_mixSheets)
  have hf87 := va_Nw.use (A := ([.ref (a o), .long p1, .int p3] : List Value).toArray) (U := s) (w := .fieldLinkNest "PianoRounds" 87 "PianoRounds$Competition" "jury" "LPianoRounds$Jury;" "PianoRounds") rfl (hG.2.1 _ (by decide +kernel))
  have hinX3 := (by decide +kernel : ∀ w ∈ wsX30, w ∈ wsX11_mixSheets)
  have hf271 := va_Nw.use (A := ([.ref (a o), .long p1, .int p3] : List Value).toArray) (U := s) (w := .fieldLinkNest "PianoRounds" 271 "PianoRounds$Jury" "size" "I" "PianoRounds") rfl (hG.2.1 _ (by decide +kernel))
  have hf248 := va_Nw.use (A := ([.ref (a o), .long p1, .int p3] : List Value).toArray) (U := s) (w := .fieldLinkNest "PianoRounds" 248 "PianoRounds$Competition" "sheet" "LPianoRounds$Sheet;" "PianoRounds") rfl (hG.2.1 _ (by decide +kernel))
  have hf235 := va_Nw.use (A := ([.ref (a o), .long p1, .int p3] : List Value).toArray) (U := s) (w := .fieldLinkNest "PianoRounds" 235 "PianoRounds$Competition" "tie" "LPianoRounds$Tie;" "PianoRounds") rfl (hG.2.1 _ (by decide +kernel))
  have hinX9 := (by decide +kernel : ∀ w ∈ wsX90, w ∈ wsX11_mixSheets)
  have hf239 := va_Nw.use (A := ([.ref (a o), .long p1, .int p3] : List Value).toArray) (U := s) (w := .fieldLinkNest "PianoRounds" 239 "PianoRounds$Tie" "sheet" "LPianoRounds$Sheet;" "PianoRounds") rfl (hG.2.1 _ (by decide +kernel))
  have hl := lv_entry ([.ref (a o), .long p1, .int p3]) (n := 7) (Nat.le_of_ble_eq_true rfl)
  rw [lg_entry_eq]
  generalize (lg_sl ([.ref (a o), .long p1, .int p3]) ++ List.replicate (7 - (lg_sl ([.ref (a o), .long p1, .int p3])).length) Slot.unset).toArray = ls at hl ⊢
  have hl : lv_has ls 7 [(0, .ref (a o)), (1, .long p1), (3, .int p3)] := hl
  rw [DX11_mixSheets] at h
  refine lv_lload_n hx hb dX11_mixSheets_0 rfl (lv_at hl 1 rfl) ?_
  refine lv_lstore (lv' := [(4, .long p1), (0, .ref (a o)), (1, .long p1), (3, .int p3)]) hx hb dX11_mixSheets_1 hl (by decide) rfl (fun ls hl => ?_)
  refine lv_iconst (v := (0 : Int32)) hx hb dX11_mixSheets_3 (by decide) ?_
  refine lv_istore (lv' := [(6, .int (0 : Int32)), (4, .long p1), (0, .ref (a o)), (1, .long p1), (3, .int p3)]) hx hb dX11_mixSheets_4 hl (by decide) rfl (fun ls hl => ?_)
  have L21 : ∀ (c3_1 : Int32) (k2 : Int64 → Option (Int64)) (hk2 : ∀ (v4_3 : Int64) (ls : Array Slot), k2 v4_3 = some rs → lv_has ls 7 [(4, .long v4_3)] → W p l e (headSpec wsX11_mixSheets ({ frames := 1, cells := 0, slots := 0, locals := 23 } : Room)).room s m ([.ref (a o), .long p1, .int p3] : List Value).toArray below meth c s.heap [] 0 0 (MQ below (vp_Sl (fun z => z = rs)) ([.ref (a o), .long p1, .int p3] : List Value).toArray s 0 0 (fun _ => False)) (F0 m 98 ls [])) (f : Nat) (v4_5 : Int64) (v6_6 : Int32) (ls : Array Slot), DX11_mixSheets_L6 S c3_1 k2 f v4_5 v6_6 = some rs → lv_has ls 7 [(0, .ref (a o)), (3, .int c3_1), (4, .long v4_5), (6, .int v6_6)] → W p l e (headSpec wsX11_mixSheets ({ frames := 1, cells := 0, slots := 0, locals := 23 } : Room)).room s m ([.ref (a o), .long p1, .int p3] : List Value).toArray below meth c s.heap [] 0 0 (MQ below (vp_Sl (fun z => z = rs)) ([.ref (a o), .long p1, .int p3] : List Value).toArray s 0 0 (fun _ => False)) (F0 m 6 ls []) := by
    intro c3_1 k2 hk2 f
    induction f with
    | zero =>
      intro v4_5 v6_6 ls h hl
      rw [DX11_mixSheets_L6] at h
      cases h
    | succ f ih =>
      intro v4_5 v6_6 ls h hl
      rw [DX11_mixSheets_L6] at h
      refine lv_iload hx hb dX11_mixSheets_6 (lv_at hl 3 rfl) ?_
      refine lv_aload_n hx hb dX11_mixSheets_8 rfl (lv_at hl 0 rfl) ?_
      refine va_get (D := D) (ci := 11) (v := .ref (a (o + 1))) (C := RX11) (T := TX11) (N := 3) hx hb hts hinX11 hown hK hP 0 rfl rfl 0 (by decide) hf10 (fun _ h9 => h9) rfl dX11_mixSheets_9 ?_
      refine va_getN (D := D) (ci := 0) (v := .ref (a (o + 1 + 14))) (C := RX0) (T := TX0) (N := 14) hx hb hts hinX0 hown hK hP 1 rfl rfl 8 (by decide) hf87 (fun _ h9 => h9) rfl dX11_mixSheets_12 ?_
      refine va_getN (D := D) (ci := 3) (v := .int (gX3_size (gX0_jury (gX11n_now S)))) (C := RX3) (T := TX3) (N := 2) hx hb hts hinX3 hown hK hP 15 rfl rfl 0 (by decide) hf271 (fun _ h9 => h9) rfl dX11_mixSheets_15 ?_
      refine lv_icmp_ge (tgt := 98) hx hb dX11_mixSheets_18 (by decide) (fun cc => ?_) (fun cc => ?_)
      · have h := ite_p cc h
        exact hk2 v4_5 ls h (lv_sub hl [2] rfl)
      · have h := ite_n cc h
        refine lv_lload hx hb dX11_mixSheets_21 (lv_at hl 2 rfl) ?_
        refine lv_aload_n hx hb dX11_mixSheets_23 rfl (lv_at hl 0 rfl) ?_
        refine va_get (D := D) (ci := 11) (v := .ref (a (o + 1))) (C := RX11) (T := TX11) (N := 3) hx hb hts hinX11 hown hK hP 0 rfl rfl 0 (by decide) hf10 (fun _ h9 => h9) rfl dX11_mixSheets_24 ?_
        refine va_getN (D := D) (ci := 0) (v := .ref (a (o + 1 + 14))) (C := RX0) (T := TX0) (N := 14) hx hb hts hinX0 hown hK hP 1 rfl rfl 8 (by decide) hf87 (fun _ h9 => h9) rfl dX11_mixSheets_27 ?_
        refine lv_iload hx hb dX11_mixSheets_30 (lv_at hl 3 rfl) ?_
        refine lv_iload_n hx hb dX11_mixSheets_32 rfl (lv_at hl 1 rfl) ?_
        obtain ⟨x7, e8, h⟩ := bd_some h
        refine pcV (As := [.int v6_6, .int c3_1]) (rest := [.long v4_5]) (q0 := 0) (qX3_isBarred l D cy a (o + 1 + 14) (gX0_jury (gX11n_now S)) v6_6 c3_1 x7 e8) ⟨hx, hb, hml, hown, hts⟩ (cwV 2 hts gX11_mixSheets_X3_isBarred rfl rfl rfl (by decide +kernel) ⟨Nat.le_of_ble_eq_true rfl, Nat.le_of_ble_eq_true rfl⟩) hG (P_seg (X := ((hX11n a o S) ++ ((hX0 a (o + 1) (gX11n_now S)) ++ ((wX10 cy a (o + 1 + 1) (gX0_works (gX11n_now S))) ++ ((wX2 cy a (o + 1 + 5) (gX0_entrants (gX11n_now S))) ++ ((rowsW (cy 2) (cy 0) a (o + 1 + 7) 4 6 (gX0_rules (gX11n_now S))) ++ (wX4 cy a (o + 1 + 12) (gX0_programs (gX11n_now S))))))))) (c := (wX3 cy a (o + 1 + 14) (gX0_jury (gX11n_now S)))) (Y := ((wX7 cy a (o + 1 + 23) (gX0_stage (gX11n_now S))) ++ ((wX6 cy a (o + 1 + 26) (gX0_sheet (gX11n_now S))) ++ ((wX9 cy a (o + 1 + 35) (gX0_tie (gX11n_now S))) ++ ((rowsW (cy 2) (cy 0) a (o + 1 + 46) 4 12 (gX0_closedScores (gX11n_now S))) ++ (wX1 cy a (o + 1 + 51) (gX0_cut (gX11n_now S)))))))) hP (by simp only [wX0, wX11n, List.append_assoc, List.nil_append, List.append_nil] <;> rfl)) rfl rfl rfl hl.1 rfl (Nat.le_of_ble_eq_true rfl) dX11_mixSheets_33 ⟨Nat.zero_le _, Nat.zero_le _⟩ ?_
        obtain ⟨j10, hj10, h⟩ := jn_elim h
        have Jj10 : ∀ (x9 : Int32) (ls : Array Slot), j10 x9 = some rs → lv_has ls 7 [(0, .ref (a o)), (3, .int c3_1), (6, .int v6_6)] → W p l e (headSpec wsX11_mixSheets ({ frames := 1, cells := 0, slots := 0, locals := 23 } : Room)).room s m ([.ref (a o), .long p1, .int p3] : List Value).toArray below meth c s.heap [] 0 0 (MQ below (vp_Sl (fun z => z = rs)) ([.ref (a o), .long p1, .int p3] : List Value).toArray s 0 0 (fun _ => False)) (F0 m 44 ls [.int x9, .long v4_5]) := by
          intro x9 ls h hl
          rw [hj10] at h
          obtain ⟨x11, e12, h⟩ := bd_some h
          refine pcSl (As := [.long v4_5, .int x9]) (rest := []) (qX11_mix l D cy  v4_5 x9 x11 e12) ⟨hx, hb, hml, hown, hts⟩ (va_cwS 2 hts gX11_mixSheets_X11_mix rfl rfl rfl (by decide +kernel) ⟨Nat.le_of_ble_eq_true rfl, Nat.le_of_ble_eq_true rfl⟩) hG (hP.sub [] rfl) rfl hl.1 rfl (Nat.le_of_ble_eq_true rfl) dX11_mixSheets_44 ⟨Nat.zero_le _, Nat.zero_le _⟩ ?_
          refine lv_lstore (lv' := [(4, .long x11), (0, .ref (a o)), (3, .int c3_1), (6, .int v6_6)]) hx hb dX11_mixSheets_47 hl (by decide) rfl (fun ls hl => ?_)
          refine lv_lload hx hb dX11_mixSheets_49 (lv_at hl 0 rfl) ?_
          refine lv_aload_n hx hb dX11_mixSheets_51 rfl (lv_at hl 1 rfl) ?_
          refine va_get (D := D) (ci := 11) (v := .ref (a (o + 1))) (C := RX11) (T := TX11) (N := 3) hx hb hts hinX11 hown hK hP 0 rfl rfl 0 (by decide) hf10 (fun _ h9 => h9) rfl dX11_mixSheets_52 ?_
          refine va_getN (D := D) (ci := 0) (v := .ref (a (o + 1 + 26))) (C := RX0) (T := TX0) (N := 14) hx hb hts hinX0 hown hK hP 1 rfl rfl 10 (by decide) hf248 (fun _ h9 => h9) rfl dX11_mixSheets_55 ?_
          refine lv_iload hx hb dX11_mixSheets_58 (lv_at hl 3 rfl) ?_
          refine lv_iload_n hx hb dX11_mixSheets_60 rfl (lv_at hl 2 rfl) ?_
          obtain ⟨x13, e14, h⟩ := bd_some h
          refine pcV (As := [.int v6_6, .int c3_1]) (rest := [.long x11]) (q0 := 0) (qX6_at l D cy a (o + 1 + 26) (gX0_sheet (gX11n_now S)) v6_6 c3_1 x13 e14) ⟨hx, hb, hml, hown, hts⟩ (cwV 2 hts gX11_mixSheets_X6_at rfl rfl rfl (by decide +kernel) ⟨Nat.le_of_ble_eq_true rfl, Nat.le_of_ble_eq_true rfl⟩) hG (P_seg (X := ((hX11n a o S) ++ ((hX0 a (o + 1) (gX11n_now S)) ++ ((wX10 cy a (o + 1 + 1) (gX0_works (gX11n_now S))) ++ ((wX2 cy a (o + 1 + 5) (gX0_entrants (gX11n_now S))) ++ ((rowsW (cy 2) (cy 0) a (o + 1 + 7) 4 6 (gX0_rules (gX11n_now S))) ++ ((wX4 cy a (o + 1 + 12) (gX0_programs (gX11n_now S))) ++ ((wX3 cy a (o + 1 + 14) (gX0_jury (gX11n_now S))) ++ (wX7 cy a (o + 1 + 23) (gX0_stage (gX11n_now S))))))))))) (c := (wX6 cy a (o + 1 + 26) (gX0_sheet (gX11n_now S)))) (Y := ((wX9 cy a (o + 1 + 35) (gX0_tie (gX11n_now S))) ++ ((rowsW (cy 2) (cy 0) a (o + 1 + 46) 4 12 (gX0_closedScores (gX11n_now S))) ++ (wX1 cy a (o + 1 + 51) (gX0_cut (gX11n_now S)))))) hP (by simp only [wX0, wX11n, List.append_assoc, List.nil_append, List.append_nil] <;> rfl)) rfl rfl rfl hl.1 rfl (Nat.le_of_ble_eq_true rfl) dX11_mixSheets_61 ⟨Nat.zero_le _, Nat.zero_le _⟩ ?_
          obtain ⟨x15, e16, h⟩ := bd_some h
          refine pcSl (As := [.long x11, .int x13]) (rest := []) (qX11_mix l D cy  x11 x13 x15 e16) ⟨hx, hb, hml, hown, hts⟩ (va_cwS 2 hts gX11_mixSheets_X11_mix rfl rfl rfl (by decide +kernel) ⟨Nat.le_of_ble_eq_true rfl, Nat.le_of_ble_eq_true rfl⟩) hG (hP.sub [] rfl) rfl hl.1 rfl (Nat.le_of_ble_eq_true rfl) dX11_mixSheets_64 ⟨Nat.zero_le _, Nat.zero_le _⟩ ?_
          refine lv_lstore (lv' := [(4, .long x15), (0, .ref (a o)), (3, .int c3_1), (6, .int v6_6)]) hx hb dX11_mixSheets_67 hl (by decide) rfl (fun ls hl => ?_)
          refine lv_lload hx hb dX11_mixSheets_69 (lv_at hl 0 rfl) ?_
          refine lv_aload_n hx hb dX11_mixSheets_71 rfl (lv_at hl 1 rfl) ?_
          refine va_get (D := D) (ci := 11) (v := .ref (a (o + 1))) (C := RX11) (T := TX11) (N := 3) hx hb hts hinX11 hown hK hP 0 rfl rfl 0 (by decide) hf10 (fun _ h9 => h9) rfl dX11_mixSheets_72 ?_
          refine va_getN (D := D) (ci := 0) (v := .ref (a (o + 1 + 35))) (C := RX0) (T := TX0) (N := 14) hx hb hts hinX0 hown hK hP 1 rfl rfl 11 (by decide) hf235 (fun _ h9 => h9) rfl dX11_mixSheets_75 ?_
          refine va_getN (D := D) (ci := 9) (v := .ref (a (o + 1 + 35 + 2))) (C := RX9) (T := TX9) (N := 4) hx hb hts hinX9 hown hK hP 36 rfl rfl 3 (by decide) hf239 (fun _ h9 => h9) rfl dX11_mixSheets_78 ?_
          refine lv_iload hx hb dX11_mixSheets_81 (lv_at hl 3 rfl) ?_
          refine lv_iload_n hx hb dX11_mixSheets_83 rfl (lv_at hl 2 rfl) ?_
          obtain ⟨x17, e18, h⟩ := bd_some h
          refine pcV (As := [.int v6_6, .int c3_1]) (rest := [.long x15]) (q0 := 0) (qX6_at l D cy a (o + 1 + 35 + 2) (gX9_sheet (gX0_tie (gX11n_now S))) v6_6 c3_1 x17 e18) ⟨hx, hb, hml, hown, hts⟩ (cwV 2 hts gX11_mixSheets_X6_at rfl rfl rfl (by decide +kernel) ⟨Nat.le_of_ble_eq_true rfl, Nat.le_of_ble_eq_true rfl⟩) hG (P_seg (X := ((hX11n a o S) ++ ((hX0 a (o + 1) (gX11n_now S)) ++ ((wX10 cy a (o + 1 + 1) (gX0_works (gX11n_now S))) ++ ((wX2 cy a (o + 1 + 5) (gX0_entrants (gX11n_now S))) ++ ((rowsW (cy 2) (cy 0) a (o + 1 + 7) 4 6 (gX0_rules (gX11n_now S))) ++ ((wX4 cy a (o + 1 + 12) (gX0_programs (gX11n_now S))) ++ ((wX3 cy a (o + 1 + 14) (gX0_jury (gX11n_now S))) ++ ((wX7 cy a (o + 1 + 23) (gX0_stage (gX11n_now S))) ++ ((wX6 cy a (o + 1 + 26) (gX0_sheet (gX11n_now S))) ++ ((hX9 a (o + 1 + 35) (gX0_tie (gX11n_now S))) ++ (aW cy a (o + 1 + 35 + 1) 12 (gX9_tied (gX0_tie (gX11n_now S))))))))))))))) (c := (wX6 cy a (o + 1 + 35 + 2) (gX9_sheet (gX0_tie (gX11n_now S))))) (Y := ((rowsW (cy 2) (cy 0) a (o + 1 + 46) 4 12 (gX0_closedScores (gX11n_now S))) ++ (wX1 cy a (o + 1 + 51) (gX0_cut (gX11n_now S))))) hP (by simp only [wX0, wX11n, wX9, List.append_assoc, List.nil_append, List.append_nil] <;> rfl)) rfl rfl rfl hl.1 rfl (Nat.le_of_ble_eq_true rfl) dX11_mixSheets_84 ⟨Nat.zero_le _, Nat.zero_le _⟩ ?_
          obtain ⟨x19, e20, h⟩ := bd_some h
          refine pcSl (As := [.long x15, .int x17]) (rest := []) (qX11_mix l D cy  x15 x17 x19 e20) ⟨hx, hb, hml, hown, hts⟩ (va_cwS 2 hts gX11_mixSheets_X11_mix rfl rfl rfl (by decide +kernel) ⟨Nat.le_of_ble_eq_true rfl, Nat.le_of_ble_eq_true rfl⟩) hG (hP.sub [] rfl) rfl hl.1 rfl (Nat.le_of_ble_eq_true rfl) dX11_mixSheets_87 ⟨Nat.zero_le _, Nat.zero_le _⟩ ?_
          refine lv_lstore (lv' := [(4, .long x19), (0, .ref (a o)), (3, .int c3_1), (6, .int v6_6)]) hx hb dX11_mixSheets_90 hl (by decide) rfl (fun ls hl => ?_)
          refine lv_iinc (v := (v6_6 + (1 : Int32))) (lv' := [(6, .int (v6_6 + (1 : Int32))), (4, .long x19), (0, .ref (a o)), (3, .int c3_1)]) hx hb dX11_mixSheets_92 hl (k := 3) rfl (by rfl) (by decide) rfl (fun ls hl => ?_)
          refine lv_goto (tgt := 6) hx hb dX11_mixSheets_95 (by decide) ?_
          exact ih x19 (v6_6 + (1 : Int32)) ls h (lv_sub hl [2, 3, 1, 0] rfl)
        refine lv_if_eq (tgt := 43) hx hb dX11_mixSheets_36 (by decide) (fun cc => ?_) (fun cc => ?_)
        · have h := ite_p cc h
          refine lv_iconst (v := (0 : Int32)) hx hb dX11_mixSheets_43 (by decide) ?_
          exact Jj10 (0 : Int32) ls h (lv_sub hl [0, 1, 3] rfl)
        · have h := ite_n cc h
          refine lv_iconst (v := (1 : Int32)) hx hb dX11_mixSheets_39 (by decide) ?_
          refine lv_goto (tgt := 44) hx hb dX11_mixSheets_40 (by decide) ?_
          exact Jj10 (1 : Int32) ls h (lv_sub hl [0, 1, 3] rfl)
  refine L21 p3 _ ?_ fu p1 (0 : Int32) ls h (lv_sub hl [2, 4, 1, 0] rfl)
  intro v4_4 ls h hl
  refine lv_lload hx hb dX11_mixSheets_98 (lv_at hl 0 rfl) ?_
  exact W.lret (v := v4_4) hx hb hr (fun t ht hW => ⟨v4_4, rfl, some_in h, ht⟩) (fun q hq => nomatch hq) dX11_mixSheets_100
set_option maxHeartbeats 4000000 in
set_option maxRecDepth 100000 in
theorem qX11_checksum (l : Launch) (D : va_G) (cy : Nat → ClassId) (a : Nat → Nat) (o : Nat) (S : SX11)  (rs : Int64) (h : DX11_checksum S = some rs) : Met l yX11_checksum wsX11_checksum ({ frames := 6, cells := 0, slots := 0, locals := 147 } : Room) (va_Pc [.ref (a o)] (fun U => va_P D vwCl (wX11 cy a o S) U.heap ∧ gK D cy U)) (vp_Sl (fun z => z = rs)) 0 0 (fun _ => False) := by
  refine Met.ofW (cc := cX11_checksum) (maxL := 4) (ret := (some .long)) (by decide) rfl ?_
  intro p e s m args below meth c s₁ B hml hv
  obtain ⟨rfl, hP, hG⟩ := hv
  have hx := B.exec
  have hb := B.bytes
  have hr := B.returns
  have hts := atoms_spec (ws := wsX11_checksum) B.pre
  have hown : s.vm.findClass RX11 = some m.cls := findClass_of_methodNamed B.named
  have hlocks := B.notSynchronized
  have hK := hG.1
  have hinX11 := (by decide +kernel : ∀ w ∈ wsX110, w ∈ wsX11_checksum)
  have hf26 := hts (.fieldLink RX11 26 "PianoRounds" "text" "LPianoRounds$Text;") (by decide +kernel)
  have hinX8 := (by decide +kernel : ∀ w ∈ wsX80, w ∈ wsX11_checksum)
  have hf277 := va_Nw.use (A := ([.ref (a o)] : List Value).toArray) (U := s) (w := .fieldLinkNest "PianoRounds" 277 "PianoRounds$Text" "length" "I" "PianoRounds") rfl (hG.2.1 _ (by decide +kernel))
  have hf19 := hts (.fieldLink RX11 19 "PianoRounds" "records" "LPianoRounds$Records;") (by decide +kernel)
  have hinX5 := (by decide +kernel : ∀ w ∈ wsX50, w ∈ wsX11_checksum)
  have hf282 := va_Nw.use (A := ([.ref (a o)] : List Value).toArray) (U := s) (w := .fieldLinkNest "PianoRounds" 282 "PianoRounds$Records" "count" "I" "PianoRounds") rfl (hG.2.1 _ (by decide +kernel))
  have hf10 := hts (.fieldLink RX11 10 "PianoRounds" "now" "LPianoRounds$Competition;") (by decide +kernel)
  have hinX0 := (by decide +kernel : ∀ w ∈ wsX00, w ∈ wsX11_checksum)
  have hf164 := va_Nw.use (A := ([.ref (a o)] : List Value).toArray) (U := s) (w := .fieldLinkNest "PianoRounds" 164 "PianoRounds$Competition" "stage" "LPianoRounds$Stage;" "PianoRounds") rfl (hG.2.1 _ (by decide +kernel))
  have hinX7 := (by decide +kernel : ∀ w ∈ wsX70, w ∈ wsX11_checksum)
  have hf177 := va_Nw.use (A := ([.ref (a o)] : List Value).toArray) (U := s) (w := .fieldLinkNest "PianoRounds" 177 "PianoRounds$Stage" "players" "I" "PianoRounds") rfl (hG.2.1 _ (by decide +kernel))
  have hf73 := va_Nw.use (A := ([.ref (a o)] : List Value).toArray) (U := s) (w := .fieldLinkNest "PianoRounds" 73 "PianoRounds$Competition" "entrants" "LPianoRounds$Entrants;" "PianoRounds") rfl (hG.2.1 _ (by decide +kernel))
  have hinX2 := (by decide +kernel : ∀ w ∈ wsX20, w ∈ wsX11_checksum)
  have hf77 := va_Nw.use (A := ([.ref (a o)] : List Value).toArray) (U := s) (w := .fieldLinkNest "PianoRounds" 77 "PianoRounds$Entrants" "count" "I" "PianoRounds") rfl (hG.2.1 _ (by decide +kernel))
  have hl := lv_entry ([.ref (a o)]) (n := 4) (Nat.le_of_ble_eq_true rfl)
  rw [lg_entry_eq]
  generalize (lg_sl ([.ref (a o)]) ++ List.replicate (4 - (lg_sl ([.ref (a o)])).length) Slot.unset).toArray = ls at hl ⊢
  have hl : lv_has ls 4 [(0, .ref (a o))] := hl
  rw [DX11_checksum] at h
  refine lv_ldc2 (v := (43009 : Int64)) hx hb hown (hts (.constantLong RX11 287 (43009 : Int64)) (by decide +kernel)) dX11_checksum_0 ?_
  refine lv_lstore_n (lv' := [(1, .long (43009 : Int64)), (0, .ref (a o))]) hx hb dX11_checksum_3 rfl hl (by decide) rfl (fun ls hl => ?_)
  refine lv_iconst (v := (0 : Int32)) hx hb dX11_checksum_4 (by decide) ?_
  refine lv_istore_n (lv' := [(3, .int (0 : Int32)), (1, .long (43009 : Int64)), (0, .ref (a o))]) hx hb dX11_checksum_5 rfl hl (by decide) rfl (fun ls hl => ?_)
  have L44 : ∀ (k1 : Int64 → Option (Int64)) (hk1 : ∀ (v1_2 : Int64) (ls : Array Slot), k1 v1_2 = some rs → lv_has ls 4 [(0, .ref (a o)), (1, .long v1_2)] → W p l e (headSpec wsX11_checksum ({ frames := 6, cells := 0, slots := 0, locals := 147 } : Room)).room s m ([.ref (a o)] : List Value).toArray below meth c s.heap [] 0 0 (MQ below (vp_Sl (fun z => z = rs)) ([.ref (a o)] : List Value).toArray s 0 0 (fun _ => False)) (F0 m 31 ls [])) (f : Nat) (v1_38 : Int64) (v3_39 : Int32) (ls : Array Slot), DX11_checksum_L6 S k1 f v1_38 v3_39 = some rs → lv_has ls 4 [(0, .ref (a o)), (1, .long v1_38), (3, .int v3_39)] → W p l e (headSpec wsX11_checksum ({ frames := 6, cells := 0, slots := 0, locals := 147 } : Room)).room s m ([.ref (a o)] : List Value).toArray below meth c s.heap [] 0 0 (MQ below (vp_Sl (fun z => z = rs)) ([.ref (a o)] : List Value).toArray s 0 0 (fun _ => False)) (F0 m 6 ls []) := by
    intro k1 hk1 f
    induction f with
    | zero =>
      intro v1_38 v3_39 ls h hl
      rw [DX11_checksum_L6] at h
      cases h
    | succ f ih =>
      intro v1_38 v3_39 ls h hl
      rw [DX11_checksum_L6] at h
      refine lv_iload_n hx hb dX11_checksum_6 rfl (lv_at hl 2 rfl) ?_
      refine lv_bipush (v := (13 : Int32)) hx hb dX11_checksum_7 (by decide) ?_
      refine lv_icmp_ge (tgt := 31) hx hb dX11_checksum_9 (by decide) (fun cc => ?_) (fun cc => ?_)
      · have h := ite_p cc h
        exact hk1 v1_38 ls h (lv_sub hl [0, 1] rfl)
      · have h := ite_n cc h
        refine lv_lload_n hx hb dX11_checksum_12 rfl (lv_at hl 1 rfl) ?_
        refine lv_aload_n hx hb dX11_checksum_13 rfl (lv_at hl 0 rfl) ?_
        refine va_get (D := D) (ci := 11) (v := .ref (a (o + 1))) (C := RX11) (T := TX11) (N := 3) hx hb hts hinX11 hown hK hP 0 rfl rfl 0 (by decide) hf10 (fun _ h9 => h9) rfl dX11_checksum_14 ?_
        refine lv_iload_n hx hb dX11_checksum_17 rfl (lv_at hl 2 rfl) ?_
        obtain ⟨x40, e41, h⟩ := bd_some h
        refine pcV (As := [.int v3_39]) (rest := [.long v1_38]) (q0 := 0) (qX0_tell l D cy a (o + 1) (gX11_now S) v3_39 x40 e41) ⟨hx, hb, hml, hown, hts⟩ (cwV 1 hts gX11_checksum_X0_tell rfl rfl rfl (by decide +kernel) ⟨Nat.le_of_ble_eq_true rfl, Nat.le_of_ble_eq_true rfl⟩) hG (P_seg (X := (hX11 a o S)) (c := (wX0 cy a (o + 1) (gX11_now S))) (Y := ((wX5 cy a (o + 54) (gX11_records S)) ++ (wX8 cy a (o + 268) (gX11_text S)))) hP (by simp only [wX11, List.append_assoc, List.nil_append, List.append_nil] <;> rfl)) rfl rfl rfl hl.1 rfl (Nat.le_of_ble_eq_true rfl) dX11_checksum_18 ⟨Nat.zero_le _, Nat.zero_le _⟩ ?_
        obtain ⟨x42, e43, h⟩ := bd_some h
        refine pcSl (As := [.long v1_38, .int x40]) (rest := []) (qX11_mix l D cy  v1_38 x40 x42 e43) ⟨hx, hb, hml, hown, hts⟩ (va_cwS 2 hts gX11_checksum_X11_mix rfl rfl rfl (by decide +kernel) ⟨Nat.le_of_ble_eq_true rfl, Nat.le_of_ble_eq_true rfl⟩) hG (hP.sub [] rfl) rfl hl.1 rfl (Nat.le_of_ble_eq_true rfl) dX11_checksum_21 ⟨Nat.zero_le _, Nat.zero_le _⟩ ?_
        refine lv_lstore_n (lv' := [(1, .long x42), (0, .ref (a o)), (3, .int v3_39)]) hx hb dX11_checksum_24 rfl hl (by decide) rfl (fun ls hl => ?_)
        refine lv_iinc (v := (v3_39 + (1 : Int32))) (lv' := [(3, .int (v3_39 + (1 : Int32))), (1, .long x42), (0, .ref (a o))]) hx hb dX11_checksum_25 hl (k := 2) rfl (by rfl) (by decide) rfl (fun ls hl => ?_)
        refine lv_goto (tgt := 6) hx hb dX11_checksum_28 (by decide) ?_
        exact ih x42 (v3_39 + (1 : Int32)) ls h (lv_sub hl [2, 1, 0] rfl)
  refine L44  _ ?_ fu (43009 : Int64) (0 : Int32) ls h (lv_sub hl [2, 1, 0] rfl)
  intro v1_3 ls h hl
  refine lv_aload_n hx hb dX11_checksum_31 rfl (lv_at hl 0 rfl) ?_
  refine lv_lload_n hx hb dX11_checksum_32 rfl (lv_at hl 1 rfl) ?_
  obtain ⟨x4, e5, h⟩ := bd_some h
  refine pcVl (As := [.long v1_3]) (rest := []) (q0 := 0) (qX11_mixWorks l D cy a o (gX11_now S) v1_3 x4 e5) ⟨hx, hb, hml, hown, hts⟩ (cwV 1 hts gX11_checksum_X11_mixWorks rfl rfl rfl (by decide +kernel) ⟨Nat.le_of_ble_eq_true rfl, Nat.le_of_ble_eq_true rfl⟩) hG (P_seg (X := ([] : va_W)) (c := (wX11n cy a o (gX11_now S))) (Y := ((wX5 cy a (o + 54) (gX11_records S)) ++ (wX8 cy a (o + 268) (gX11_text S)))) hP (by simp only [wX11, wX11n, List.append_assoc, List.nil_append, List.append_nil] <;> rfl)) rfl rfl rfl hl.1 rfl (Nat.le_of_ble_eq_true rfl) dX11_checksum_33 ⟨Nat.zero_le _, Nat.zero_le _⟩ ?_
  refine lv_lstore_n (lv' := [(1, .long x4), (0, .ref (a o))]) hx hb dX11_checksum_36 rfl hl (by decide) rfl (fun ls hl => ?_)
  refine lv_aload_n hx hb dX11_checksum_37 rfl (lv_at hl 1 rfl) ?_
  refine lv_lload_n hx hb dX11_checksum_38 rfl (lv_at hl 0 rfl) ?_
  obtain ⟨x6, e7, h⟩ := bd_some h
  refine pcVl (As := [.long x4]) (rest := []) (q0 := 0) (qX11_mixRules l D cy a o (gX11_now S) x4 x6 e7) ⟨hx, hb, hml, hown, hts⟩ (cwV 1 hts gX11_checksum_X11_mixRules rfl rfl rfl (by decide +kernel) ⟨Nat.le_of_ble_eq_true rfl, Nat.le_of_ble_eq_true rfl⟩) hG (P_seg (X := ([] : va_W)) (c := (wX11n cy a o (gX11_now S))) (Y := ((wX5 cy a (o + 54) (gX11_records S)) ++ (wX8 cy a (o + 268) (gX11_text S)))) hP (by simp only [wX11, wX11n, List.append_assoc, List.nil_append, List.append_nil] <;> rfl)) rfl rfl rfl hl.1 rfl (Nat.le_of_ble_eq_true rfl) dX11_checksum_39 ⟨Nat.zero_le _, Nat.zero_le _⟩ ?_
  refine lv_lstore_n (lv' := [(1, .long x6), (0, .ref (a o))]) hx hb dX11_checksum_42 rfl hl (by decide) rfl (fun ls hl => ?_)
  refine lv_iconst (v := (0 : Int32)) hx hb dX11_checksum_43 (by decide) ?_
  refine lv_istore_n (lv' := [(3, .int (0 : Int32)), (1, .long x6), (0, .ref (a o))]) hx hb dX11_checksum_44 rfl hl (by decide) rfl (fun ls hl => ?_)
  have L37 : ∀ (k8 : Int64 → Option (Int64)) (hk8 : ∀ (v1_9 : Int64) (ls : Array Slot), k8 v1_9 = some rs → lv_has ls 4 [(0, .ref (a o)), (1, .long v1_9)] → W p l e (headSpec wsX11_checksum ({ frames := 6, cells := 0, slots := 0, locals := 147 } : Room)).room s m ([.ref (a o)] : List Value).toArray below meth c s.heap [] 0 0 (MQ below (vp_Sl (fun z => z = rs)) ([.ref (a o)] : List Value).toArray s 0 0 (fun _ => False)) (F0 m 86 ls [])) (f : Nat) (v1_29 : Int64) (v3_30 : Int32) (ls : Array Slot), DX11_checksum_L45 S k8 f v1_29 v3_30 = some rs → lv_has ls 4 [(0, .ref (a o)), (1, .long v1_29), (3, .int v3_30)] → W p l e (headSpec wsX11_checksum ({ frames := 6, cells := 0, slots := 0, locals := 147 } : Room)).room s m ([.ref (a o)] : List Value).toArray below meth c s.heap [] 0 0 (MQ below (vp_Sl (fun z => z = rs)) ([.ref (a o)] : List Value).toArray s 0 0 (fun _ => False)) (F0 m 45 ls []) := by
    intro k8 hk8 f
    induction f with
    | zero =>
      intro v1_29 v3_30 ls h hl
      rw [DX11_checksum_L45] at h
      cases h
    | succ f ih =>
      intro v1_29 v3_30 ls h hl
      rw [DX11_checksum_L45] at h
      refine lv_iload_n hx hb dX11_checksum_45 rfl (lv_at hl 2 rfl) ?_
      refine lv_aload_n hx hb dX11_checksum_46 rfl (lv_at hl 0 rfl) ?_
      refine va_get (D := D) (ci := 11) (v := .ref (a (o + 1))) (C := RX11) (T := TX11) (N := 3) hx hb hts hinX11 hown hK hP 0 rfl rfl 0 (by decide) hf10 (fun _ h9 => h9) rfl dX11_checksum_47 ?_
      refine va_getN (D := D) (ci := 0) (v := .ref (a (o + 1 + 5))) (C := RX0) (T := TX0) (N := 14) hx hb hts hinX0 hown hK hP 1 rfl rfl 5 (by decide) hf73 (fun _ h9 => h9) rfl dX11_checksum_50 ?_
      refine va_getN (D := D) (ci := 2) (v := .int (gX2_count (gX0_entrants (gX11_now S)))) (C := RX2) (T := TX2) (N := 2) hx hb hts hinX2 hown hK hP 6 rfl rfl 0 (by decide) hf77 (fun _ h9 => h9) rfl dX11_checksum_53 ?_
      refine lv_icmp_ge (tgt := 86) hx hb dX11_checksum_56 (by decide) (fun cc => ?_) (fun cc => ?_)
      · have h := ite_p cc h
        exact hk8 v1_29 ls h (lv_sub hl [0, 1] rfl)
      · have h := ite_n cc h
        refine lv_aload_n hx hb dX11_checksum_59 rfl (lv_at hl 0 rfl) ?_
        refine lv_lload_n hx hb dX11_checksum_60 rfl (lv_at hl 1 rfl) ?_
        refine lv_iload_n hx hb dX11_checksum_61 rfl (lv_at hl 2 rfl) ?_
        obtain ⟨x31, e32, h⟩ := bd_some h
        refine pcVl (As := [.long v1_29, .int v3_30]) (rest := []) (q0 := 0) (qX11_mixEntrant l D cy a o (gX11_now S) v1_29 v3_30 x31 e32) ⟨hx, hb, hml, hown, hts⟩ (cwV 2 hts gX11_checksum_X11_mixEntrant rfl rfl rfl (by decide +kernel) ⟨Nat.le_of_ble_eq_true rfl, Nat.le_of_ble_eq_true rfl⟩) hG (P_seg (X := ([] : va_W)) (c := (wX11n cy a o (gX11_now S))) (Y := ((wX5 cy a (o + 54) (gX11_records S)) ++ (wX8 cy a (o + 268) (gX11_text S)))) hP (by simp only [wX11, wX11n, List.append_assoc, List.nil_append, List.append_nil] <;> rfl)) rfl rfl rfl hl.1 rfl (Nat.le_of_ble_eq_true rfl) dX11_checksum_62 ⟨Nat.zero_le _, Nat.zero_le _⟩ ?_
        refine lv_lstore_n (lv' := [(1, .long x31), (0, .ref (a o)), (3, .int v3_30)]) hx hb dX11_checksum_65 rfl hl (by decide) rfl (fun ls hl => ?_)
        refine lv_aload_n hx hb dX11_checksum_66 rfl (lv_at hl 1 rfl) ?_
        refine lv_lload_n hx hb dX11_checksum_67 rfl (lv_at hl 0 rfl) ?_
        refine lv_iload_n hx hb dX11_checksum_68 rfl (lv_at hl 2 rfl) ?_
        obtain ⟨x33, e34, h⟩ := bd_some h
        refine pcVl (As := [.long x31, .int v3_30]) (rest := []) (q0 := 0) (qX11_mixPrograms l D cy a o (gX11_now S) x31 v3_30 x33 e34) ⟨hx, hb, hml, hown, hts⟩ (cwV 2 hts gX11_checksum_X11_mixPrograms rfl rfl rfl (by decide +kernel) ⟨Nat.le_of_ble_eq_true rfl, Nat.le_of_ble_eq_true rfl⟩) hG (P_seg (X := ([] : va_W)) (c := (wX11n cy a o (gX11_now S))) (Y := ((wX5 cy a (o + 54) (gX11_records S)) ++ (wX8 cy a (o + 268) (gX11_text S)))) hP (by simp only [wX11, wX11n, List.append_assoc, List.nil_append, List.append_nil] <;> rfl)) rfl rfl rfl hl.1 rfl (Nat.le_of_ble_eq_true rfl) dX11_checksum_69 ⟨Nat.zero_le _, Nat.zero_le _⟩ ?_
        refine lv_lstore_n (lv' := [(1, .long x33), (0, .ref (a o)), (3, .int v3_30)]) hx hb dX11_checksum_72 rfl hl (by decide) rfl (fun ls hl => ?_)
        refine lv_aload_n hx hb dX11_checksum_73 rfl (lv_at hl 1 rfl) ?_
        refine lv_lload_n hx hb dX11_checksum_74 rfl (lv_at hl 0 rfl) ?_
        refine lv_iload_n hx hb dX11_checksum_75 rfl (lv_at hl 2 rfl) ?_
        obtain ⟨x35, e36, h⟩ := bd_some h
        refine pcVl (As := [.long x33, .int v3_30]) (rest := []) (q0 := 0) (qX11_mixSheets l D cy a o (gX11_now S) x33 v3_30 x35 e36) ⟨hx, hb, hml, hown, hts⟩ (cwV 2 hts gX11_checksum_X11_mixSheets rfl rfl rfl (by decide +kernel) ⟨Nat.le_of_ble_eq_true rfl, Nat.le_of_ble_eq_true rfl⟩) hG (P_seg (X := ([] : va_W)) (c := (wX11n cy a o (gX11_now S))) (Y := ((wX5 cy a (o + 54) (gX11_records S)) ++ (wX8 cy a (o + 268) (gX11_text S)))) hP (by simp only [wX11, wX11n, List.append_assoc, List.nil_append, List.append_nil] <;> rfl)) rfl rfl rfl hl.1 rfl (Nat.le_of_ble_eq_true rfl) dX11_checksum_76 ⟨Nat.zero_le _, Nat.zero_le _⟩ ?_
        refine lv_lstore_n (lv' := [(1, .long x35), (0, .ref (a o)), (3, .int v3_30)]) hx hb dX11_checksum_79 rfl hl (by decide) rfl (fun ls hl => ?_)
        refine lv_iinc (v := (v3_30 + (1 : Int32))) (lv' := [(3, .int (v3_30 + (1 : Int32))), (1, .long x35), (0, .ref (a o))]) hx hb dX11_checksum_80 hl (k := 2) rfl (by rfl) (by decide) rfl (fun ls hl => ?_)
        refine lv_goto (tgt := 45) hx hb dX11_checksum_83 (by decide) ?_
        exact ih x35 (v3_30 + (1 : Int32)) ls h (lv_sub hl [2, 1, 0] rfl)
  refine L37  _ ?_ fu x6 (0 : Int32) ls h (lv_sub hl [2, 1, 0] rfl)
  intro v1_10 ls h hl
  refine lv_iconst (v := (0 : Int32)) hx hb dX11_checksum_86 (by decide) ?_
  refine lv_istore_n (lv' := [(3, .int (0 : Int32)), (0, .ref (a o)), (1, .long v1_10)]) hx hb dX11_checksum_87 rfl hl (by decide) rfl (fun ls hl => ?_)
  have L28 : ∀ (k11 : Int64 → Option (Int64)) (hk11 : ∀ (v1_12 : Int64) (ls : Array Slot), k11 v1_12 = some rs → lv_has ls 4 [(0, .ref (a o)), (1, .long v1_12)] → W p l e (headSpec wsX11_checksum ({ frames := 6, cells := 0, slots := 0, locals := 147 } : Room)).room s m ([.ref (a o)] : List Value).toArray below meth c s.heap [] 0 0 (MQ below (vp_Sl (fun z => z = rs)) ([.ref (a o)] : List Value).toArray s 0 0 (fun _ => False)) (F0 m 124 ls [])) (f : Nat) (v1_22 : Int64) (v3_23 : Int32) (ls : Array Slot), DX11_checksum_L88 S k11 f v1_22 v3_23 = some rs → lv_has ls 4 [(0, .ref (a o)), (1, .long v1_22), (3, .int v3_23)] → W p l e (headSpec wsX11_checksum ({ frames := 6, cells := 0, slots := 0, locals := 147 } : Room)).room s m ([.ref (a o)] : List Value).toArray below meth c s.heap [] 0 0 (MQ below (vp_Sl (fun z => z = rs)) ([.ref (a o)] : List Value).toArray s 0 0 (fun _ => False)) (F0 m 88 ls []) := by
    intro k11 hk11 f
    induction f with
    | zero =>
      intro v1_22 v3_23 ls h hl
      rw [DX11_checksum_L88] at h
      cases h
    | succ f ih =>
      intro v1_22 v3_23 ls h hl
      rw [DX11_checksum_L88] at h
      refine lv_iload_n hx hb dX11_checksum_88 rfl (lv_at hl 2 rfl) ?_
      refine lv_aload_n hx hb dX11_checksum_89 rfl (lv_at hl 0 rfl) ?_
      refine va_get (D := D) (ci := 11) (v := .ref (a (o + 1))) (C := RX11) (T := TX11) (N := 3) hx hb hts hinX11 hown hK hP 0 rfl rfl 0 (by decide) hf10 (fun _ h9 => h9) rfl dX11_checksum_90 ?_
      refine va_getN (D := D) (ci := 0) (v := .ref (a (o + 1 + 23))) (C := RX0) (T := TX0) (N := 14) hx hb hts hinX0 hown hK hP 1 rfl rfl 9 (by decide) hf164 (fun _ h9 => h9) rfl dX11_checksum_93 ?_
      refine va_getN (D := D) (ci := 7) (v := .int (gX7_players (gX0_stage (gX11_now S)))) (C := RX7) (T := TX7) (N := 5) hx hb hts hinX7 hown hK hP 24 rfl rfl 0 (by decide) hf177 (fun _ h9 => h9) rfl dX11_checksum_96 ?_
      refine lv_icmp_ge (tgt := 124) hx hb dX11_checksum_99 (by decide) (fun cc => ?_) (fun cc => ?_)
      · have h := ite_p cc h
        exact hk11 v1_22 ls h (lv_sub hl [0, 1] rfl)
      · have h := ite_n cc h
        refine lv_lload_n hx hb dX11_checksum_102 rfl (lv_at hl 1 rfl) ?_
        refine lv_aload_n hx hb dX11_checksum_103 rfl (lv_at hl 0 rfl) ?_
        refine va_get (D := D) (ci := 11) (v := .ref (a (o + 1))) (C := RX11) (T := TX11) (N := 3) hx hb hts hinX11 hown hK hP 0 rfl rfl 0 (by decide) hf10 (fun _ h9 => h9) rfl dX11_checksum_104 ?_
        refine va_getN (D := D) (ci := 0) (v := .ref (a (o + 1 + 23))) (C := RX0) (T := TX0) (N := 14) hx hb hts hinX0 hown hK hP 1 rfl rfl 9 (by decide) hf164 (fun _ h9 => h9) rfl dX11_checksum_107 ?_
        refine lv_iload_n hx hb dX11_checksum_110 rfl (lv_at hl 2 rfl) ?_
        obtain ⟨x24, e25, h⟩ := bd_some h
        refine pcV (As := [.int v3_23]) (rest := [.long v1_22]) (q0 := 0) (qX7_playerAt l D cy a (o + 1 + 23) (gX0_stage (gX11_now S)) v3_23 x24 e25) ⟨hx, hb, hml, hown, hts⟩ (cwV 1 hts gX11_checksum_X7_playerAt rfl rfl rfl (by decide +kernel) ⟨Nat.le_of_ble_eq_true rfl, Nat.le_of_ble_eq_true rfl⟩) hG (P_seg (X := ((hX11 a o S) ++ ((hX0 a (o + 1) (gX11_now S)) ++ ((wX10 cy a (o + 1 + 1) (gX0_works (gX11_now S))) ++ ((wX2 cy a (o + 1 + 5) (gX0_entrants (gX11_now S))) ++ ((rowsW (cy 2) (cy 0) a (o + 1 + 7) 4 6 (gX0_rules (gX11_now S))) ++ ((wX4 cy a (o + 1 + 12) (gX0_programs (gX11_now S))) ++ (wX3 cy a (o + 1 + 14) (gX0_jury (gX11_now S)))))))))) (c := (wX7 cy a (o + 1 + 23) (gX0_stage (gX11_now S)))) (Y := ((wX6 cy a (o + 1 + 26) (gX0_sheet (gX11_now S))) ++ ((wX9 cy a (o + 1 + 35) (gX0_tie (gX11_now S))) ++ ((rowsW (cy 2) (cy 0) a (o + 1 + 46) 4 12 (gX0_closedScores (gX11_now S))) ++ ((wX1 cy a (o + 1 + 51) (gX0_cut (gX11_now S))) ++ ((wX5 cy a (o + 54) (gX11_records S)) ++ (wX8 cy a (o + 268) (gX11_text S)))))))) hP (by simp only [wX0, wX11, List.append_assoc, List.nil_append, List.append_nil] <;> rfl)) rfl rfl rfl hl.1 rfl (Nat.le_of_ble_eq_true rfl) dX11_checksum_111 ⟨Nat.zero_le _, Nat.zero_le _⟩ ?_
        obtain ⟨x26, e27, h⟩ := bd_some h
        refine pcSl (As := [.long v1_22, .int x24]) (rest := []) (qX11_mix l D cy  v1_22 x24 x26 e27) ⟨hx, hb, hml, hown, hts⟩ (va_cwS 2 hts gX11_checksum_X11_mix rfl rfl rfl (by decide +kernel) ⟨Nat.le_of_ble_eq_true rfl, Nat.le_of_ble_eq_true rfl⟩) hG (hP.sub [] rfl) rfl hl.1 rfl (Nat.le_of_ble_eq_true rfl) dX11_checksum_114 ⟨Nat.zero_le _, Nat.zero_le _⟩ ?_
        refine lv_lstore_n (lv' := [(1, .long x26), (0, .ref (a o)), (3, .int v3_23)]) hx hb dX11_checksum_117 rfl hl (by decide) rfl (fun ls hl => ?_)
        refine lv_iinc (v := (v3_23 + (1 : Int32))) (lv' := [(3, .int (v3_23 + (1 : Int32))), (1, .long x26), (0, .ref (a o))]) hx hb dX11_checksum_118 hl (k := 2) rfl (by rfl) (by decide) rfl (fun ls hl => ?_)
        refine lv_goto (tgt := 88) hx hb dX11_checksum_121 (by decide) ?_
        exact ih x26 (v3_23 + (1 : Int32)) ls h (lv_sub hl [2, 1, 0] rfl)
  refine L28  _ ?_ fu v1_10 (0 : Int32) ls h (lv_sub hl [1, 2, 0] rfl)
  intro v1_13 ls h hl
  refine lv_lload_n hx hb dX11_checksum_124 rfl (lv_at hl 1 rfl) ?_
  refine lv_aload_n hx hb dX11_checksum_125 rfl (lv_at hl 0 rfl) ?_
  obtain ⟨x14, e15, h⟩ := bd_some h
  refine pcV (As := []) (rest := [.long v1_13]) (q0 := 0) (qX11_strangestJuror l D cy a o (gX11_now S)  x14 e15) ⟨hx, hb, hml, hown, hts⟩ (cwV 0 hts gX11_checksum_X11_strangestJuror rfl rfl rfl (by decide +kernel) ⟨Nat.le_of_ble_eq_true rfl, Nat.le_of_ble_eq_true rfl⟩) hG (P_seg (X := ([] : va_W)) (c := (wX11n cy a o (gX11_now S))) (Y := ((wX5 cy a (o + 54) (gX11_records S)) ++ (wX8 cy a (o + 268) (gX11_text S)))) hP (by simp only [wX11, wX11n, List.append_assoc, List.nil_append, List.append_nil] <;> rfl)) rfl rfl rfl hl.1 rfl (Nat.le_of_ble_eq_true rfl) dX11_checksum_126 ⟨Nat.zero_le _, Nat.zero_le _⟩ ?_
  obtain ⟨x16, e17, h⟩ := bd_some h
  refine pcSl (As := [.long v1_13, .int x14]) (rest := []) (qX11_mix l D cy  v1_13 x14 x16 e17) ⟨hx, hb, hml, hown, hts⟩ (va_cwS 2 hts gX11_checksum_X11_mix rfl rfl rfl (by decide +kernel) ⟨Nat.le_of_ble_eq_true rfl, Nat.le_of_ble_eq_true rfl⟩) hG (hP.sub [] rfl) rfl hl.1 rfl (Nat.le_of_ble_eq_true rfl) dX11_checksum_129 ⟨Nat.zero_le _, Nat.zero_le _⟩ ?_
  refine lv_lstore_n (lv' := [(1, .long x16), (0, .ref (a o))]) hx hb dX11_checksum_132 rfl hl (by decide) rfl (fun ls hl => ?_)
  refine lv_lload_n hx hb dX11_checksum_133 rfl (lv_at hl 0 rfl) ?_
  refine lv_aload_n hx hb dX11_checksum_134 rfl (lv_at hl 1 rfl) ?_
  refine va_get (D := D) (ci := 11) (v := .ref (a (o + 268))) (C := RX11) (T := TX11) (N := 3) hx hb hts hinX11 hown hK hP 0 rfl rfl 2 (by decide) hf26 (fun _ h9 => h9) rfl dX11_checksum_135 ?_
  refine va_getN (D := D) (ci := 8) (v := .int (gX8_length (gX11_text S))) (C := RX8) (T := TX8) (N := 5) hx hb hts hinX8 hown hK hP 268 rfl rfl 0 (by decide) hf277 (fun _ h9 => h9) rfl dX11_checksum_138 ?_
  obtain ⟨x18, e19, h⟩ := bd_some h
  refine pcSl (As := [.long x16, .int (gX8_length (gX11_text S))]) (rest := []) (qX11_mix l D cy  x16 (gX8_length (gX11_text S)) x18 e19) ⟨hx, hb, hml, hown, hts⟩ (va_cwS 2 hts gX11_checksum_X11_mix rfl rfl rfl (by decide +kernel) ⟨Nat.le_of_ble_eq_true rfl, Nat.le_of_ble_eq_true rfl⟩) hG (hP.sub [] rfl) rfl hl.1 rfl (Nat.le_of_ble_eq_true rfl) dX11_checksum_141 ⟨Nat.zero_le _, Nat.zero_le _⟩ ?_
  refine lv_lstore_n (lv' := [(1, .long x18), (0, .ref (a o))]) hx hb dX11_checksum_144 rfl hl (by decide) rfl (fun ls hl => ?_)
  refine lv_lload_n hx hb dX11_checksum_145 rfl (lv_at hl 0 rfl) ?_
  refine lv_aload_n hx hb dX11_checksum_146 rfl (lv_at hl 1 rfl) ?_
  refine va_get (D := D) (ci := 11) (v := .ref (a (o + 54))) (C := RX11) (T := TX11) (N := 3) hx hb hts hinX11 hown hK hP 0 rfl rfl 1 (by decide) hf19 (fun _ h9 => h9) rfl dX11_checksum_147 ?_
  refine va_getN (D := D) (ci := 5) (v := .int (gX5_count (gX11_records S))) (C := RX5) (T := TX5) (N := 2) hx hb hts hinX5 hown hK hP 54 rfl rfl 0 (by decide) hf282 (fun _ h9 => h9) rfl dX11_checksum_150 ?_
  obtain ⟨x20, e21, h⟩ := bd_some h
  refine pcSl (As := [.long x18, .int (gX5_count (gX11_records S))]) (rest := []) (qX11_mix l D cy  x18 (gX5_count (gX11_records S)) x20 e21) ⟨hx, hb, hml, hown, hts⟩ (va_cwS 2 hts gX11_checksum_X11_mix rfl rfl rfl (by decide +kernel) ⟨Nat.le_of_ble_eq_true rfl, Nat.le_of_ble_eq_true rfl⟩) hG (hP.sub [] rfl) rfl hl.1 rfl (Nat.le_of_ble_eq_true rfl) dX11_checksum_153 ⟨Nat.zero_le _, Nat.zero_le _⟩ ?_
  exact W.lret (v := x20) hx hb hr (fun t ht hW => ⟨x20, rfl, some_in h, ht⟩) (fun q hq => nomatch hq) dX11_checksum_156
