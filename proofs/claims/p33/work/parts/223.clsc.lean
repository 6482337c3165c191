set_option maxHeartbeats 4000000 in
set_option maxRecDepth 100000 in
theorem qX0_canBeMarked (l : Launch) (D : va_G) (cy : Nat → ClassId) (a : Nat → Nat) (o : Nat) (S : SX0) (p1 : Int32) (rs : Int32) (h : DX0_canBeMarked S p1 = some rs) : Met l yX0_canBeMarked wsX0_canBeMarked ({ frames := 3, cells := 0, slots := 0, locals := 64 } : Room) (va_Pc [.ref (a o), .int p1] (fun U => va_P D vwCl (wX0 cy a o S) U.heap ∧ gK D cy U)) (vp_Si (fun z => z = rs)) 0 0 (fun _ => False) := by
  refine Met.ofW (cc := cX0_canBeMarked) (maxL := 2) (ret := (some .boolean)) (by decide) rfl ?_
  intro p e s m args below meth c s₁ B hml hv
  obtain ⟨rfl, hP, hG⟩ := hv
  have hx := B.exec
  have hb := B.bytes
  have hr := B.returns
  have hts := atoms_spec (ws := wsX0_canBeMarked) B.pre
  have hown : s.vm.findClass RX0 = some m.cls := findClass_of_methodNamed B.named
  have hlocks := B.notSynchronized
  have hK := hG.1
  have hinX0 := (by decide +kernel : ∀ w ∈ wsX00, w ∈ wsX0_canBeMarked)
  have hf9 := hts (.fieldLink RX0 9 "PianoRounds$Competition" "state" "I") (by decide +kernel)
  have hf57 := hts (.fieldLink RX0 57 "PianoRounds$Competition" "stage" "LPianoRounds$Stage;") (by decide +kernel)
  have hf71 := hts (.fieldLink RX0 71 "PianoRounds$Competition" "tie" "LPianoRounds$Tie;") (by decide +kernel)
  have hl := lv_entry ([.ref (a o), .int p1]) (n := 2) (Nat.le_of_ble_eq_true rfl)
  rw [lg_entry_eq]
  generalize (lg_sl ([.ref (a o), .int p1]) ++ List.replicate (2 - (lg_sl ([.ref (a o), .int p1])).length) Slot.unset).toArray = ls at hl ⊢
  have hl : lv_has ls 2 [(0, .ref (a o)), (1, .int p1)] := hl
  rw [DX0_canBeMarked] at h
  refine lv_aload_n hx hb dX0_canBeMarked_0 rfl (lv_at hl 0 rfl) ?_
  refine va_get (D := D) (ci := 0) (v := .int (gX0_state S)) (C := RX0) (T := TX0) (N := 14) hx hb hts hinX0 hown hK hP 0 rfl rfl 0 (by decide) hf9 (fun _ h9 => h9) rfl dX0_canBeMarked_1 ?_
  refine lv_iconst (v := (2 : Int32)) hx hb dX0_canBeMarked_4 (by decide) ?_
  refine lv_icmp_ne (tgt := 17) hx hb dX0_canBeMarked_5 (by decide) (fun cc => ?_) (fun cc => ?_)
  · have h := ite_n cc h
    refine lv_aload_n hx hb dX0_canBeMarked_17 rfl (lv_at hl 0 rfl) ?_
    refine va_get (D := D) (ci := 0) (v := .int (gX0_state S)) (C := RX0) (T := TX0) (N := 14) hx hb hts hinX0 hown hK hP 0 rfl rfl 0 (by decide) hf9 (fun _ h9 => h9) rfl dX0_canBeMarked_18 ?_
    refine lv_iconst (v := (1 : Int32)) hx hb dX0_canBeMarked_21 (by decide) ?_
    obtain ⟨j2, hj2, h⟩ := jn_elim h
    have Jj2 : ∀ (x1 : Int32) (ls : Array Slot), j2 x1 = some rs → lv_has ls 2 [] → W p l e (headSpec wsX0_canBeMarked ({ frames := 3, cells := 0, slots := 0, locals := 64 } : Room)).room s m ([.ref (a o), .int p1] : List Value).toArray below meth c s.heap [] 0 0 (MQ below (vp_Si (fun z => z = rs)) ([.ref (a o), .int p1] : List Value).toArray s 0 0 (fun _ => False)) (F0 m 41 ls [.int x1]) := by
      intro x1 ls h hl
      rw [hj2] at h
      obtain ⟨g3, h⟩ := gd_some h
      exact W.zret (v := x1) hx hb hr (zN g3) (fun t ht hW => ⟨x1, rfl, some_in h, ht⟩) (fun q hq => nomatch hq) dX0_canBeMarked_41
    obtain ⟨j4, hj4, h⟩ := jn_elim h
    have Jj4 : ∀ (ls : Array Slot), j4 () = some rs → lv_has ls 2 [] → W p l e (headSpec wsX0_canBeMarked ({ frames := 3, cells := 0, slots := 0, locals := 64 } : Room)).room s m ([.ref (a o), .int p1] : List Value).toArray below meth c s.heap [] 0 0 (MQ below (vp_Si (fun z => z = rs)) ([.ref (a o), .int p1] : List Value).toArray s 0 0 (fun _ => False)) (F0 m 40 ls []) := by
      intro ls h hl
      rw [hj4] at h
      refine lv_iconst (v := (0 : Int32)) hx hb dX0_canBeMarked_40 (by decide) ?_
      exact Jj2 (0 : Int32) ls h (lv_sub hl [] rfl)
    refine lv_icmp_ne (tgt := 40) hx hb dX0_canBeMarked_22 (by decide) (fun cc => ?_) (fun cc => ?_)
    · have h := ite_n cc h
      exact Jj4  ls h (lv_sub hl [] rfl)
    · have h := ite_p cc h
      refine lv_aload_n hx hb dX0_canBeMarked_25 rfl (lv_at hl 0 rfl) ?_
      refine va_get (D := D) (ci := 0) (v := .ref (a (o + 23))) (C := RX0) (T := TX0) (N := 14) hx hb hts hinX0 hown hK hP 0 rfl rfl 9 (by decide) hf57 (fun _ h9 => h9) rfl dX0_canBeMarked_26 ?_
      refine lv_iload_n hx hb dX0_canBeMarked_29 rfl (lv_at hl 1 rfl) ?_
      obtain ⟨x5, e6, h⟩ := bd_some h
      refine pcV (As := [.int p1]) (rest := []) (q0 := 0) (qX7_hasPlayed l D cy a (o + 23) (gX0_stage S) p1 x5 e6) ⟨hx, hb, hml, hown, hts⟩ (cwV 1 hts gX0_canBeMarked_X7_hasPlayed rfl rfl rfl (by decide +kernel) ⟨Nat.le_of_ble_eq_true rfl, Nat.le_of_ble_eq_true rfl⟩) hG (P_seg (X := ((hX0 a o S) ++ ((wX10 cy a (o + 1) (gX0_works S)) ++ ((wX2 cy a (o + 5) (gX0_entrants S)) ++ ((rowsW (cy 2) (cy 0) a (o + 7) 4 6 (gX0_rules S)) ++ ((wX4 cy a (o + 12) (gX0_programs S)) ++ (wX3 cy a (o + 14) (gX0_jury S)))))))) (c := (wX7 cy a (o + 23) (gX0_stage S))) (Y := ((wX6 cy a (o + 26) (gX0_sheet S)) ++ ((wX9 cy a (o + 35) (gX0_tie S)) ++ ((rowsW (cy 2) (cy 0) a (o + 46) 4 12 (gX0_closedScores S)) ++ (wX1 cy a (o + 51) (gX0_cut S)))))) hP (by simp only [wX0, List.append_assoc, List.nil_append, List.append_nil] <;> rfl)) rfl rfl rfl hl.1 rfl (Nat.le_of_ble_eq_true rfl) dX0_canBeMarked_30 ⟨Nat.zero_le _, Nat.zero_le _⟩ ?_
      refine lv_if_eq (tgt := 40) hx hb dX0_canBeMarked_33 (by decide) (fun cc => ?_) (fun cc => ?_)
      · have h := ite_p cc h
        exact Jj4  ls h (lv_sub hl [] rfl)
      · have h := ite_n cc h
        refine lv_iconst (v := (1 : Int32)) hx hb dX0_canBeMarked_36 (by decide) ?_
        refine lv_goto (tgt := 41) hx hb dX0_canBeMarked_37 (by decide) ?_
        exact Jj2 (1 : Int32) ls h (lv_sub hl [] rfl)
  · have h := ite_p cc h
    refine lv_aload_n hx hb dX0_canBeMarked_8 rfl (lv_at hl 0 rfl) ?_
    refine va_get (D := D) (ci := 0) (v := .ref (a (o + 35))) (C := RX0) (T := TX0) (N := 14) hx hb hts hinX0 hown hK hP 0 rfl rfl 11 (by decide) hf71 (fun _ h9 => h9) rfl dX0_canBeMarked_9 ?_
    refine lv_iload_n hx hb dX0_canBeMarked_12 rfl (lv_at hl 1 rfl) ?_
    obtain ⟨x7, e8, h⟩ := bd_some h
    refine pcV (As := [.int p1]) (rest := []) (q0 := 0) (qX9_has l D cy a (o + 35) (gX0_tie S) p1 x7 e8) ⟨hx, hb, hml, hown, hts⟩ (cwV 1 hts gX0_canBeMarked_X9_has rfl rfl rfl (by decide +kernel) ⟨Nat.le_of_ble_eq_true rfl, Nat.le_of_ble_eq_true rfl⟩) hG (P_seg (X := ((hX0 a o S) ++ ((wX10 cy a (o + 1) (gX0_works S)) ++ ((wX2 cy a (o + 5) (gX0_entrants S)) ++ ((rowsW (cy 2) (cy 0) a (o + 7) 4 6 (gX0_rules S)) ++ ((wX4 cy a (o + 12) (gX0_programs S)) ++ ((wX3 cy a (o + 14) (gX0_jury S)) ++ ((wX7 cy a (o + 23) (gX0_stage S)) ++ (wX6 cy a (o + 26) (gX0_sheet S)))))))))) (c := (wX9 cy a (o + 35) (gX0_tie S))) (Y := ((rowsW (cy 2) (cy 0) a (o + 46) 4 12 (gX0_closedScores S)) ++ (wX1 cy a (o + 51) (gX0_cut S)))) hP (by simp only [wX0, List.append_assoc, List.nil_append, List.append_nil] <;> rfl)) rfl rfl rfl hl.1 rfl (Nat.le_of_ble_eq_true rfl) dX0_canBeMarked_13 ⟨Nat.zero_le _, Nat.zero_le _⟩ ?_
    obtain ⟨g9, h⟩ := gd_some h
    exact W.zret (v := x7) hx hb hr (zN g9) (fun t ht hW => ⟨x7, rfl, some_in h, ht⟩) (fun q hq => nomatch hq) dX0_canBeMarked_16
set_option maxHeartbeats 4000000 in
set_option maxRecDepth 100000 in
theorem qX0_distanceOf (l : Launch) (D : va_G) (cy : Nat → ClassId) (a : Nat → Nat) (o : Nat) (S : SX0) (p1 : Int32) (rs : Int32) (h : DX0_distanceOf S p1 = some rs) : Met l yX0_distanceOf wsX0_distanceOf ({ frames := 2, cells := 0, slots := 0, locals := 53 } : Room) (va_Pc [.ref (a o), .int p1] (fun U => va_P D vwCl (wX0 cy a o S) U.heap ∧ gK D cy U)) (vp_Si (fun z => z = rs)) 0 0 (fun _ => False) := by
  refine Met.ofW (cc := cX0_distanceOf) (maxL := 7) (ret := (some .int)) (by decide) rfl ?_
  intro p e s m args below meth c s₁ B hml hv
  obtain ⟨rfl, hP, hG⟩ := hv
  have hx := B.exec
  have hb := B.bytes
  have hr := B.returns
  have hts := atoms_spec (ws := wsX0_distanceOf) B.pre
  have hown : s.vm.findClass RX0 = some m.cls := findClass_of_methodNamed B.named
  have hlocks := B.notSynchronized
  have hK := hG.1
  have hinX0 := (by decide +kernel : ∀ w ∈ wsX00, w ∈ wsX0_distanceOf)
  have hf57 := hts (.fieldLink RX0 57 "PianoRounds$Competition" "stage" "LPianoRounds$Stage;") (by decide +kernel)
  have hinX7 := (by decide +kernel : ∀ w ∈ wsX70, w ∈ wsX0_distanceOf)
  have hf139 := va_Nw.use (A := ([.ref (a o), .int p1] : List Value).toArray) (U := s) (w := .fieldLinkNest "PianoRounds$Competition" 139 "PianoRounds$Stage" "players" "I" "PianoRounds") rfl (hG.2.1 _ (by decide +kernel))
  have hf50 := hts (.fieldLink RX0 50 "PianoRounds$Competition" "jury" "LPianoRounds$Jury;") (by decide +kernel)
  have hf64 := hts (.fieldLink RX0 64 "PianoRounds$Competition" "sheet" "LPianoRounds$Sheet;") (by decide +kernel)
  have hm219 := hts (.methodLink RX0 219 Lib.Math.abs.name) (by decide +kernel)
  have hms_abs := hts (.static Lib.Math.abs.name) (by decide +kernel)
  have hmi := hts (.initialized "java/lang/Math") (by decide +kernel)
  have hmc_abs := hts (.code Lib.Math.abs.name Lib.Math.abs.code 1 (some .int)) (by decide +kernel)
  have hm199 := hts (.methodLink RX0 199 Lib.Math.max.name) (by decide +kernel)
  have hms_max := hts (.static Lib.Math.max.name) (by decide +kernel)
  have hmc_max := hts (.code Lib.Math.max.name Lib.Math.max.code 2 (some .int)) (by decide +kernel)
  have hl := lv_entry ([.ref (a o), .int p1]) (n := 7) (Nat.le_of_ble_eq_true rfl)
  rw [lg_entry_eq]
  generalize (lg_sl ([.ref (a o), .int p1]) ++ List.replicate (7 - (lg_sl ([.ref (a o), .int p1])).length) Slot.unset).toArray = ls at hl ⊢
  have hl : lv_has ls 7 [(0, .ref (a o)), (1, .int p1)] := hl
  rw [DX0_distanceOf] at h
  refine lv_iconst (v := (-1 : Int32)) hx hb dX0_distanceOf_0 (by decide) ?_
  refine lv_istore_n (lv' := [(2, .int (-1 : Int32)), (0, .ref (a o)), (1, .int p1)]) hx hb dX0_distanceOf_1 rfl hl (by decide) rfl (fun ls hl => ?_)
  refine lv_iconst (v := (0 : Int32)) hx hb dX0_distanceOf_2 (by decide) ?_
  refine lv_istore_n (lv' := [(3, .int (0 : Int32)), (2, .int (-1 : Int32)), (0, .ref (a o)), (1, .int p1)]) hx hb dX0_distanceOf_3 rfl hl (by decide) rfl (fun ls hl => ?_)
  have L17 : ∀ (c1_1 : Int32) (k2 : Int32 → Option (Int32)) (hk2 : ∀ (v2_3 : Int32) (ls : Array Slot), k2 v2_3 = some rs → lv_has ls 7 [(2, .int v2_3)] → W p l e (headSpec wsX0_distanceOf ({ frames := 2, cells := 0, slots := 0, locals := 53 } : Room)).room s m ([.ref (a o), .int p1] : List Value).toArray below meth c s.heap [] 0 0 (MQ below (vp_Si (fun z => z = rs)) ([.ref (a o), .int p1] : List Value).toArray s 0 0 (fun _ => False)) (F0 m 102 ls [])) (f : Nat) (v2_5 : Int32) (v3_6 : Int32) (ls : Array Slot), DX0_distanceOf_L4 S c1_1 k2 f v2_5 v3_6 = some rs → lv_has ls 7 [(0, .ref (a o)), (1, .int c1_1), (2, .int v2_5), (3, .int v3_6)] → W p l e (headSpec wsX0_distanceOf ({ frames := 2, cells := 0, slots := 0, locals := 53 } : Room)).room s m ([.ref (a o), .int p1] : List Value).toArray below meth c s.heap [] 0 0 (MQ below (vp_Si (fun z => z = rs)) ([.ref (a o), .int p1] : List Value).toArray s 0 0 (fun _ => False)) (F0 m 4 ls []) := by
    intro c1_1 k2 hk2 f
    induction f with
    | zero =>
      intro v2_5 v3_6 ls h hl
      rw [DX0_distanceOf_L4] at h
      cases h
    | succ f ih =>
      intro v2_5 v3_6 ls h hl
      rw [DX0_distanceOf_L4] at h
      refine lv_iload_n hx hb dX0_distanceOf_4 rfl (lv_at hl 3 rfl) ?_
      refine lv_aload_n hx hb dX0_distanceOf_5 rfl (lv_at hl 0 rfl) ?_
      refine va_get (D := D) (ci := 0) (v := .ref (a (o + 23))) (C := RX0) (T := TX0) (N := 14) hx hb hts hinX0 hown hK hP 0 rfl rfl 9 (by decide) hf57 (fun _ h9 => h9) rfl dX0_distanceOf_6 ?_
      refine va_getN (D := D) (ci := 7) (v := .int (gX7_players (gX0_stage S))) (C := RX7) (T := TX7) (N := 5) hx hb hts hinX7 hown hK hP 23 rfl rfl 0 (by decide) hf139 (fun _ h9 => h9) rfl dX0_distanceOf_9 ?_
      refine lv_icmp_ge (tgt := 102) hx hb dX0_distanceOf_12 (by decide) (fun cc => ?_) (fun cc => ?_)
      · have h := ite_p cc h
        exact hk2 v2_5 ls h (lv_sub hl [2] rfl)
      · have h := ite_n cc h
        refine lv_aload_n hx hb dX0_distanceOf_15 rfl (lv_at hl 0 rfl) ?_
        refine va_get (D := D) (ci := 0) (v := .ref (a (o + 23))) (C := RX0) (T := TX0) (N := 14) hx hb hts hinX0 hown hK hP 0 rfl rfl 9 (by decide) hf57 (fun _ h9 => h9) rfl dX0_distanceOf_16 ?_
        refine lv_iload_n hx hb dX0_distanceOf_19 rfl (lv_at hl 3 rfl) ?_
        obtain ⟨x7, e8, h⟩ := bd_some h
        refine pcV (As := [.int v3_6]) (rest := []) (q0 := 0) (qX7_playerAt l D cy a (o + 23) (gX0_stage S) v3_6 x7 e8) ⟨hx, hb, hml, hown, hts⟩ (cwV 1 hts gX0_distanceOf_X7_playerAt rfl rfl rfl (by decide +kernel) ⟨Nat.le_of_ble_eq_true rfl, Nat.le_of_ble_eq_true rfl⟩) hG (P_seg (X := ((hX0 a o S) ++ ((wX10 cy a (o + 1) (gX0_works S)) ++ ((wX2 cy a (o + 5) (gX0_entrants S)) ++ ((rowsW (cy 2) (cy 0) a (o + 7) 4 6 (gX0_rules S)) ++ ((wX4 cy a (o + 12) (gX0_programs S)) ++ (wX3 cy a (o + 14) (gX0_jury S)))))))) (c := (wX7 cy a (o + 23) (gX0_stage S))) (Y := ((wX6 cy a (o + 26) (gX0_sheet S)) ++ ((wX9 cy a (o + 35) (gX0_tie S)) ++ ((rowsW (cy 2) (cy 0) a (o + 46) 4 12 (gX0_closedScores S)) ++ (wX1 cy a (o + 51) (gX0_cut S)))))) hP (by simp only [wX0, List.append_assoc, List.nil_append, List.append_nil] <;> rfl)) rfl rfl rfl hl.1 rfl (Nat.le_of_ble_eq_true rfl) dX0_distanceOf_20 ⟨Nat.zero_le _, Nat.zero_le _⟩ ?_
        refine lv_istore (lv' := [(4, .int x7), (0, .ref (a o)), (1, .int c1_1), (2, .int v2_5), (3, .int v3_6)]) hx hb dX0_distanceOf_23 hl (by decide) rfl (fun ls hl => ?_)
        refine lv_aload_n hx hb dX0_distanceOf_25 rfl (lv_at hl 1 rfl) ?_
        refine va_get (D := D) (ci := 0) (v := .ref (a (o + 14))) (C := RX0) (T := TX0) (N := 14) hx hb hts hinX0 hown hK hP 0 rfl rfl 8 (by decide) hf50 (fun _ h9 => h9) rfl dX0_distanceOf_26 ?_
        refine lv_aload_n hx hb dX0_distanceOf_29 rfl (lv_at hl 1 rfl) ?_
        refine va_get (D := D) (ci := 0) (v := .ref (a (o + 26))) (C := RX0) (T := TX0) (N := 14) hx hb hts hinX0 hown hK hP 0 rfl rfl 10 (by decide) hf64 (fun _ h9 => h9) rfl dX0_distanceOf_30 ?_
        refine lv_iload hx hb dX0_distanceOf_33 (lv_at hl 0 rfl) ?_
        refine lv_iload_n hx hb dX0_distanceOf_35 rfl (lv_at hl 2 rfl) ?_
        refine lv_iconst (v := (-1 : Int32)) hx hb dX0_distanceOf_36 (by decide) ?_
        obtain ⟨x9, e10, h⟩ := bd_some h
        refine pcV (As := [.ref (a (o + 26)), .int x7, .int c1_1, .int (-1 : Int32)]) (rest := []) (q0 := 0) (qX3_meanIf l D cy a (o + 14) a (o + 26) (gX0_jury S) (gX0_sheet S) x7 c1_1 (-1 : Int32) x9 e10) ⟨hx, hb, hml, hown, hts⟩ (cwV 4 hts gX0_distanceOf_X3_meanIf rfl rfl rfl (by decide +kernel) ⟨Nat.le_of_ble_eq_true rfl, Nat.le_of_ble_eq_true rfl⟩) hG (va_P.app (P_seg (X := ((hX0 a o S) ++ ((wX10 cy a (o + 1) (gX0_works S)) ++ ((wX2 cy a (o + 5) (gX0_entrants S)) ++ ((rowsW (cy 2) (cy 0) a (o + 7) 4 6 (gX0_rules S)) ++ (wX4 cy a (o + 12) (gX0_programs S))))))) (c := (wX3 cy a (o + 14) (gX0_jury S))) (Y := ((wX7 cy a (o + 23) (gX0_stage S)) ++ ((wX6 cy a (o + 26) (gX0_sheet S)) ++ ((wX9 cy a (o + 35) (gX0_tie S)) ++ ((rowsW (cy 2) (cy 0) a (o + 46) 4 12 (gX0_closedScores S)) ++ (wX1 cy a (o + 51) (gX0_cut S))))))) hP (by simp only [wX0, List.append_assoc, List.nil_append, List.append_nil] <;> rfl)) (P_seg (X := ((hX0 a o S) ++ ((wX10 cy a (o + 1) (gX0_works S)) ++ ((wX2 cy a (o + 5) (gX0_entrants S)) ++ ((rowsW (cy 2) (cy 0) a (o + 7) 4 6 (gX0_rules S)) ++ ((wX4 cy a (o + 12) (gX0_programs S)) ++ ((wX3 cy a (o + 14) (gX0_jury S)) ++ (wX7 cy a (o + 23) (gX0_stage S))))))))) (c := (wX6 cy a (o + 26) (gX0_sheet S))) (Y := ((wX9 cy a (o + 35) (gX0_tie S)) ++ ((rowsW (cy 2) (cy 0) a (o + 46) 4 12 (gX0_closedScores S)) ++ (wX1 cy a (o + 51) (gX0_cut S))))) hP (by simp only [wX0, List.append_assoc, List.nil_append, List.append_nil] <;> rfl))) rfl rfl rfl hl.1 rfl (Nat.le_of_ble_eq_true rfl) dX0_distanceOf_37 ⟨Nat.zero_le _, Nat.zero_le _⟩ ?_
        refine lv_istore (lv' := [(5, .int x9), (4, .int x7), (0, .ref (a o)), (1, .int c1_1), (2, .int v2_5), (3, .int v3_6)]) hx hb dX0_distanceOf_40 hl (by decide) rfl (fun ls hl => ?_)
        refine lv_iload hx hb dX0_distanceOf_42 (lv_at hl 0 rfl) ?_
        refine lv_iconst (v := (-1 : Int32)) hx hb dX0_distanceOf_44 (by decide) ?_
        obtain ⟨j12, hj12, h⟩ := jn_elim h
        have Jj12 : ∀ (v2_11 : Int32) (ls : Array Slot), j12 v2_11 = some rs → lv_has ls 7 [(0, .ref (a o)), (1, .int c1_1), (2, .int v2_11), (3, .int v3_6)] → W p l e (headSpec wsX0_distanceOf ({ frames := 2, cells := 0, slots := 0, locals := 53 } : Room)).room s m ([.ref (a o), .int p1] : List Value).toArray below meth c s.heap [] 0 0 (MQ below (vp_Si (fun z => z = rs)) ([.ref (a o), .int p1] : List Value).toArray s 0 0 (fun _ => False)) (F0 m 96 ls []) := by
          intro v2_11 ls h hl
          rw [hj12] at h
          refine lv_iinc (v := (v3_6 + (1 : Int32))) (lv' := [(3, .int (v3_6 + (1 : Int32))), (0, .ref (a o)), (1, .int c1_1), (2, .int v2_11)]) hx hb dX0_distanceOf_96 hl (k := 3) rfl (by rfl) (by decide) rfl (fun ls hl => ?_)
          refine lv_goto (tgt := 4) hx hb dX0_distanceOf_99 (by decide) ?_
          exact ih v2_11 (v3_6 + (1 : Int32)) ls h (lv_sub hl [1, 2, 3, 0] rfl)
        refine lv_icmp_eq (tgt := 96) hx hb dX0_distanceOf_45 (by decide) (fun cc => ?_) (fun cc => ?_)
        · have h := ite_p cc h
          exact Jj12 v2_5 ls h (lv_sub hl [2, 3, 4, 5] rfl)
        · have h := ite_n cc h
          refine lv_aload_n hx hb dX0_distanceOf_48 rfl (lv_at hl 2 rfl) ?_
          refine va_get (D := D) (ci := 0) (v := .ref (a (o + 14))) (C := RX0) (T := TX0) (N := 14) hx hb hts hinX0 hown hK hP 0 rfl rfl 8 (by decide) hf50 (fun _ h9 => h9) rfl dX0_distanceOf_49 ?_
          refine lv_aload_n hx hb dX0_distanceOf_52 rfl (lv_at hl 2 rfl) ?_
          refine va_get (D := D) (ci := 0) (v := .ref (a (o + 26))) (C := RX0) (T := TX0) (N := 14) hx hb hts hinX0 hown hK hP 0 rfl rfl 10 (by decide) hf64 (fun _ h9 => h9) rfl dX0_distanceOf_53 ?_
          refine lv_iload_n hx hb dX0_distanceOf_56 rfl (lv_at hl 3 rfl) ?_
          refine lv_iload hx hb dX0_distanceOf_57 (lv_at hl 1 rfl) ?_
          obtain ⟨x13, e14, h⟩ := bd_some h
          refine pcV (As := [.ref (a (o + 26)), .int c1_1, .int x7]) (rest := []) (q0 := 0) (qX3_counts l D cy a (o + 14) a (o + 26) (gX0_jury S) (gX0_sheet S) c1_1 x7 x13 e14) ⟨hx, hb, hml, hown, hts⟩ (cwV 3 hts gX0_distanceOf_X3_counts rfl rfl rfl (by decide +kernel) ⟨Nat.le_of_ble_eq_true rfl, Nat.le_of_ble_eq_true rfl⟩) hG (va_P.app (P_seg (X := ((hX0 a o S) ++ ((wX10 cy a (o + 1) (gX0_works S)) ++ ((wX2 cy a (o + 5) (gX0_entrants S)) ++ ((rowsW (cy 2) (cy 0) a (o + 7) 4 6 (gX0_rules S)) ++ (wX4 cy a (o + 12) (gX0_programs S))))))) (c := (wX3 cy a (o + 14) (gX0_jury S))) (Y := ((wX7 cy a (o + 23) (gX0_stage S)) ++ ((wX6 cy a (o + 26) (gX0_sheet S)) ++ ((wX9 cy a (o + 35) (gX0_tie S)) ++ ((rowsW (cy 2) (cy 0) a (o + 46) 4 12 (gX0_closedScores S)) ++ (wX1 cy a (o + 51) (gX0_cut S))))))) hP (by simp only [wX0, List.append_assoc, List.nil_append, List.append_nil] <;> rfl)) (P_seg (X := ((hX0 a o S) ++ ((wX10 cy a (o + 1) (gX0_works S)) ++ ((wX2 cy a (o + 5) (gX0_entrants S)) ++ ((rowsW (cy 2) (cy 0) a (o + 7) 4 6 (gX0_rules S)) ++ ((wX4 cy a (o + 12) (gX0_programs S)) ++ ((wX3 cy a (o + 14) (gX0_jury S)) ++ (wX7 cy a (o + 23) (gX0_stage S))))))))) (c := (wX6 cy a (o + 26) (gX0_sheet S))) (Y := ((wX9 cy a (o + 35) (gX0_tie S)) ++ ((rowsW (cy 2) (cy 0) a (o + 46) 4 12 (gX0_closedScores S)) ++ (wX1 cy a (o + 51) (gX0_cut S))))) hP (by simp only [wX0, List.append_assoc, List.nil_append, List.append_nil] <;> rfl))) rfl rfl rfl hl.1 rfl (Nat.le_of_ble_eq_true rfl) dX0_distanceOf_59 ⟨Nat.zero_le _, Nat.zero_le _⟩ ?_
          refine lv_if_eq (tgt := 96) hx hb dX0_distanceOf_62 (by decide) (fun cc => ?_) (fun cc => ?_)
          · have h := ite_p cc h
            exact Jj12 v2_5 ls h (lv_sub hl [2, 3, 4, 5] rfl)
          · have h := ite_n cc h
            refine lv_sipush (v := (1000 : Int32)) hx hb dX0_distanceOf_65 (by decide) ?_
            refine lv_aload_n hx hb dX0_distanceOf_68 rfl (lv_at hl 2 rfl) ?_
            refine va_get (D := D) (ci := 0) (v := .ref (a (o + 26))) (C := RX0) (T := TX0) (N := 14) hx hb hts hinX0 hown hK hP 0 rfl rfl 10 (by decide) hf64 (fun _ h9 => h9) rfl dX0_distanceOf_69 ?_
            refine lv_iload_n hx hb dX0_distanceOf_72 rfl (lv_at hl 3 rfl) ?_
            refine lv_iload hx hb dX0_distanceOf_73 (lv_at hl 1 rfl) ?_
            obtain ⟨x15, e16, h⟩ := bd_some h
            refine pcV (As := [.int c1_1, .int x7]) (rest := [.int (1000 : Int32)]) (q0 := 0) (qX6_at l D cy a (o + 26) (gX0_sheet S) c1_1 x7 x15 e16) ⟨hx, hb, hml, hown, hts⟩ (cwV 2 hts gX0_distanceOf_X6_at rfl rfl rfl (by decide +kernel) ⟨Nat.le_of_ble_eq_true rfl, Nat.le_of_ble_eq_true rfl⟩) hG (P_seg (X := ((hX0 a o S) ++ ((wX10 cy a (o + 1) (gX0_works S)) ++ ((wX2 cy a (o + 5) (gX0_entrants S)) ++ ((rowsW (cy 2) (cy 0) a (o + 7) 4 6 (gX0_rules S)) ++ ((wX4 cy a (o + 12) (gX0_programs S)) ++ ((wX3 cy a (o + 14) (gX0_jury S)) ++ (wX7 cy a (o + 23) (gX0_stage S))))))))) (c := (wX6 cy a (o + 26) (gX0_sheet S))) (Y := ((wX9 cy a (o + 35) (gX0_tie S)) ++ ((rowsW (cy 2) (cy 0) a (o + 46) 4 12 (gX0_closedScores S)) ++ (wX1 cy a (o + 51) (gX0_cut S))))) hP (by simp only [wX0, List.append_assoc, List.nil_append, List.append_nil] <;> rfl)) rfl rfl rfl hl.1 rfl (Nat.le_of_ble_eq_true rfl) dX0_distanceOf_75 ⟨Nat.zero_le _, Nat.zero_le _⟩ ?_
            refine lv_imul hx hb dX0_distanceOf_78 ?_
            refine lv_iload hx hb dX0_distanceOf_79 (lv_at hl 0 rfl) ?_
            refine lv_isub hx hb dX0_distanceOf_81 ?_
            refine va_mabs hx hb (hml.trans hl.1.symm) hown hm219 hms_abs hmi hmc_abs (Nat.le_of_ble_eq_true rfl) (Nat.le_of_ble_eq_true rfl) (Nat.zero_le _) (Nat.zero_le _) dX0_distanceOf_82 ?_
            refine lv_istore (lv' := [(6, .int (if (0 : Int32) ≤ (((1000 : Int32) * x15) - x9) then (((1000 : Int32) * x15) - x9) else (0 : Int32) - (((1000 : Int32) * x15) - x9))), (5, .int x9), (4, .int x7), (0, .ref (a o)), (1, .int c1_1), (2, .int v2_5), (3, .int v3_6)]) hx hb dX0_distanceOf_85 hl (by decide) rfl (fun ls hl => ?_)
            refine lv_iconst (v := (0 : Int32)) hx hb dX0_distanceOf_87 (by decide) ?_
            refine lv_iload_n hx hb dX0_distanceOf_88 rfl (lv_at hl 5 rfl) ?_
            refine va_mmax hx hb (hml.trans hl.1.symm) hown hm199 hms_max hmi hmc_max (Nat.le_of_ble_eq_true rfl) (Nat.le_of_ble_eq_true rfl) (Nat.zero_le _) (Nat.zero_le _) dX0_distanceOf_89 ?_
            refine lv_iload hx hb dX0_distanceOf_92 (lv_at hl 0 rfl) ?_
            refine lv_iadd hx hb dX0_distanceOf_94 ?_
            refine lv_istore_n (lv' := [(2, .int ((if (0 : Int32) < v2_5 then v2_5 else (0 : Int32)) + (if (0 : Int32) ≤ (((1000 : Int32) * x15) - x9) then (((1000 : Int32) * x15) - x9) else (0 : Int32) - (((1000 : Int32) * x15) - x9)))), (6, .int (if (0 : Int32) ≤ (((1000 : Int32) * x15) - x9) then (((1000 : Int32) * x15) - x9) else (0 : Int32) - (((1000 : Int32) * x15) - x9))), (5, .int x9), (4, .int x7), (0, .ref (a o)), (1, .int c1_1), (3, .int v3_6)]) hx hb dX0_distanceOf_95 rfl hl (by decide) rfl (fun ls hl => ?_)
            exact Jj12 ((if (0 : Int32) < v2_5 then v2_5 else (0 : Int32)) + (if (0 : Int32) ≤ (((1000 : Int32) * x15) - x9) then (((1000 : Int32) * x15) - x9) else (0 : Int32) - (((1000 : Int32) * x15) - x9))) ls h (lv_sub hl [4, 5, 0, 6] rfl)
  refine L17 p1 _ ?_ fu (-1 : Int32) (0 : Int32) ls h (lv_sub hl [2, 3, 1, 0] rfl)
  intro v2_4 ls h hl
  refine lv_iload_n hx hb dX0_distanceOf_102 rfl (lv_at hl 0 rfl) ?_
  exact W.iret (v := v2_4) hx hb hr (fun t ht hW => ⟨v2_4, rfl, some_in h, ht⟩) (fun q hq => nomatch hq) dX0_distanceOf_103
set_option maxHeartbeats 4000000 in
set_option maxRecDepth 100000 in
theorem qX7_empty (l : Launch) (D : va_G) (cy : Nat → ClassId) (a : Nat → Nat) (o : Nat) (S : SX7)  (sz : Nat) (rs : SX7) (h : DX7_empty S = some rs) : Met l yX7_empty wsX7_empty ({ frames := 1, cells := 0, slots := 0, locals := 23 } : Room) (mP D cy sz [.ref (a o)] (wX7 cy a o S)) (va_Qv (fun (u : SX7) => u = rs) (fun u t => mB D sz (wX7 cy a o S) (wX7 cy a o u) t) (va_A (wX7 cy a o S) sz)) 0 0 (va_A (wX7 cy a o S) sz) := by
  refine Met.ofW (cc := cX7_empty) (maxL := 1) (ret := none) (by decide) rfl ?_
  intro p e s m args below meth c s₁ B hml hv
  obtain ⟨rfl, hsz, hP, hG, hD0⟩ := hv
  have hx := B.exec
  have hb := B.bytes
  have hr := B.returns
  have hts := atoms_spec (ws := wsX7_empty) B.pre
  have hown : s.vm.findClass RX7 = some m.cls := findClass_of_methodNamed B.named
  have hlocks := B.notSynchronized
  have hK := hG.1
  subst hsz
  have hD := hD0.self (sz := s.heap.size)
  have hA : ∀ q : Nat, s.heap.size ≤ q → (va_A (wX7 cy a o S) s.heap.size) q := fun q h => Or.inr h
  have hS : va_S (va_A (wX7 cy a o S) s.heap.size) s.heap s.heap [] := va_S.rf
  have hinX7 := (by decide +kernel : ∀ w ∈ wsX70, w ∈ wsX7_empty)
  have hf21 := hts (.fieldLink RX7 21 "PianoRounds$Stage" "players" "I") (by decide +kernel)
  have hf25 := hts (.fieldLink RX7 25 "PianoRounds$Stage" "played" "I") (by decide +kernel)
  have hf15 := hts (.fieldLink RX7 15 "PianoRounds$Stage" "slips" "[I") (by decide +kernel)
  have hl := lv_entry ([.ref (a o)]) (n := 1) (Nat.le_of_ble_eq_true rfl)
  rw [lg_entry_eq]
  generalize (lg_sl ([.ref (a o)]) ++ List.replicate (1 - (lg_sl ([.ref (a o)])).length) Slot.unset).toArray = ls at hl ⊢
  have hl : lv_has ls 1 [(0, .ref (a o))] := hl
  rw [DX7_empty] at h
  refine lv_aload_n hx hb dX7_empty_0 rfl (lv_at hl 0 rfl) ?_
  refine lv_iconst (v := (0 : Int32)) hx hb dX7_empty_1 (by decide) ?_
  refine va_put (D := D) (ci := 7) (v := .int (0 : Int32)) (ty := .int) (C := RX7) (T := TX7) (N := 5) hx hb hts hinX7 tyX7 tyX7_ok nmX7 hown hK hP hD hS 0 rfl rfl 0 (by decide) hf21 (fun _ h9 => h9) rfl (by decide +kernel) rfl rfl (Nat.le_of_ble_eq_true rfl) dX7_empty_2 (fun H locs hP hD hS => ?_)
  have hP : va_P D vwCl (wX7 cy a o (uX7_players S (0 : Int32))) H := hP
  have hD : va_D (va_A (wX7 cy a o S) s.heap.size) (wX7 cy a o (uX7_players S (0 : Int32))) := hD
  obtain ⟨S1, eS2, h⟩ := lt_elim h
  have hP : va_P D vwCl (wX7 cy a o S1) H := by rw [eS2]; exact hP
  have hD : va_D (va_A (wX7 cy a o S) s.heap.size) (wX7 cy a o S1) := by rw [eS2]; exact hD
  refine lv_aload_n hx hb dX7_empty_5 rfl (lv_at hl 0 rfl) ?_
  refine lv_iconst (v := (0 : Int32)) hx hb dX7_empty_6 (by decide) ?_
  refine va_put (D := D) (ci := 7) (v := .int (0 : Int32)) (ty := .int) (C := RX7) (T := TX7) (N := 5) hx hb hts hinX7 tyX7 tyX7_ok nmX7 hown hK hP hD hS 0 rfl rfl 1 (by decide) hf25 (fun _ h9 => h9) rfl (by decide +kernel) rfl rfl (Nat.le_of_ble_eq_true rfl) dX7_empty_7 (fun H locs hP hD hS => ?_)
  have hP : va_P D vwCl (wX7 cy a o (uX7_played S1 (0 : Int32))) H := hP
  have hD : va_D (va_A (wX7 cy a o S) s.heap.size) (wX7 cy a o (uX7_played S1 (0 : Int32))) := hD
  obtain ⟨S3, eS4, h⟩ := lt_elim h
  have hP : va_P D vwCl (wX7 cy a o S3) H := by rw [eS4]; exact hP
  have hD : va_D (va_A (wX7 cy a o S) s.heap.size) (wX7 cy a o S3) := by rw [eS4]; exact hD
  refine lv_aload_n hx hb dX7_empty_10 rfl (lv_at hl 0 rfl) ?_
  refine va_get (D := D) (ci := 7) (v := .ref (a (o + 2))) (C := RX7) (T := TX7) (N := 5) hx hb hts hinX7 hown hK hP 0 rfl rfl 4 (by decide) hf15 (fun _ h9 => h9) rfl dX7_empty_11 ?_
  refine lv_iconst (v := (-1 : Int32)) hx hb dX7_empty_14 (by decide) ?_
  refine mcC1 (b := (a (o + 2))) (e0 := .inl (cy 0, 12, .inl (gX7_slips S3))) (e1 := .inl (cy 0, 12, .inl (fun _ => (-1 : Int32)))) (ws' := (wX7 cy a o (uX7_slips S3 (fun _ => (-1 : Int32))))) (fun hp => va_runS (As := [.ref (a (o + 2)), .int (-1 : Int32)]) (rest := []) ⟨hx, hb, hml, hown, hts⟩ (qJ7_fill l D cy (a (o + 2)) 12 (by decide) (gX7_slips S3) (-1 : Int32) (H).size) (va_cwS 2 hts gX7_empty_J7_fill_53178 rfl rfl rfl (by decide +kernel) ⟨Nat.le_of_ble_eq_true rfl, Nat.le_of_ble_eq_true rfl⟩) hp rfl rfl hl.1 rfl (lv_room (Nat.le_of_ble_eq_true rfl)) dX7_empty_15 ⟨Nat.zero_le _, Nat.zero_le _⟩) hG hP hD hS hA 2 rfl rfl (fun H locs hP hD hS => ?_)
  obtain ⟨S5, eS6, h⟩ := lt_elim h
  have hP : va_P D vwCl (wX7 cy a o S5) H := by rw [eS6]; exact hP
  have hD : va_D (va_A (wX7 cy a o S) s.heap.size) (wX7 cy a o S5) := by rw [eS6]; exact hD
  exact W.vret hx hb hr (fun t ht hW => ⟨⟨S5, rfl, some_in h, by rw [ht]; exact hP, hD⟩, hS.F ht⟩) hS.2.2 dX7_empty_18
set_option maxHeartbeats 4000000 in
set_option maxRecDepth 100000 in
theorem qX6_wipe (l : Launch) (D : va_G) (cy : Nat → ClassId) (a : Nat → Nat) (o : Nat) (S : SX6)  (sz : Nat) (rs : SX6) (h : DX6_wipe S = some rs) : Met l yX6_wipe wsX6_wipe ({ frames := 1, cells := 0, slots := 0, locals := 23 } : Room) (mP D cy sz [.ref (a o)] (wX6 cy a o S)) (va_Qv (fun (u : SX6) => u = rs) (fun u t => mB D sz (wX6 cy a o S) (wX6 cy a o u) t) (va_A (wX6 cy a o S) sz)) 0 0 (va_A (wX6 cy a o S) sz) := by
  refine Met.ofW (cc := cX6_wipe) (maxL := 2) (ret := none) (by decide) rfl ?_
  intro p e s m args below meth c s₁ B hml hv
  obtain ⟨rfl, hsz, hP, hG, hD0⟩ := hv
  have hx := B.exec
  have hb := B.bytes
  have hr := B.returns
  have hts := atoms_spec (ws := wsX6_wipe) B.pre
  have hown : s.vm.findClass RX6 = some m.cls := findClass_of_methodNamed B.named
  have hlocks := B.notSynchronized
  have hK := hG.1
  subst hsz
  have hD := hD0.self (sz := s.heap.size)
  have hA : ∀ q : Nat, s.heap.size ≤ q → (va_A (wX6 cy a o S) s.heap.size) q := fun q h => Or.inr h
  have hS : va_S (va_A (wX6 cy a o S) s.heap.size) s.heap s.heap [] := va_S.rf
  have hinX6 := (by decide +kernel : ∀ w ∈ wsX60, w ∈ wsX6_wipe)
  have hf11 := hts (.fieldLink RX6 11 "PianoRounds$Sheet" "rows" "[[I") (by decide +kernel)
  have hl := lv_entry ([.ref (a o)]) (n := 2) (Nat.le_of_ble_eq_true rfl)
  rw [lg_entry_eq]
  generalize (lg_sl ([.ref (a o)]) ++ List.replicate (2 - (lg_sl ([.ref (a o)])).length) Slot.unset).toArray = ls at hl ⊢
  have hl : lv_has ls 2 [(0, .ref (a o))] := hl
  rw [DX6_wipe] at h
  refine lv_iconst (v := (0 : Int32)) hx hb dX6_wipe_0 (by decide) ?_
  refine lv_istore_n (lv' := [(1, .int (0 : Int32)), (0, .ref (a o))]) hx hb dX6_wipe_1 rfl hl (by decide) rfl (fun ls hl => ?_)
  have L9 : ∀ (k2 : SX6 → Option (SX6)) (hk2 : ∀ (S3 : SX6) (H : Heap) (locs : List Loc) (ls : Array Slot), k2 S3 = some rs → va_P D vwCl (wX6 cy a o S3) H → va_D (va_A (wX6 cy a o S) s.heap.size) (wX6 cy a o S3) → va_S (va_A (wX6 cy a o S) s.heap.size) s.heap H locs → lv_has ls 2 [] → W p l e (headSpec wsX6_wipe ({ frames := 1, cells := 0, slots := 0, locals := 23 } : Room)).room s m ([.ref (a o)] : List Value).toArray below meth c H locs 0 0 (MQ below (va_Qv (fun (u : SX6) => u = rs) (fun u t => mB D s.heap.size (wX6 cy a o S) (wX6 cy a o u) t) (va_A (wX6 cy a o S) s.heap.size)) ([.ref (a o)] : List Value).toArray s 0 0 (va_A (wX6 cy a o S) s.heap.size)) (F0 m 24 ls [])) (f : Nat) (v1_5 : Int32) (S1 : SX6) (H : Heap) (locs : List Loc) (ls : Array Slot), DX6_wipe_L2 k2 f v1_5 S1 = some rs → va_P D vwCl (wX6 cy a o S1) H → va_D (va_A (wX6 cy a o S) s.heap.size) (wX6 cy a o S1) → va_S (va_A (wX6 cy a o S) s.heap.size) s.heap H locs → lv_has ls 2 [(0, .ref (a o)), (1, .int v1_5)] → W p l e (headSpec wsX6_wipe ({ frames := 1, cells := 0, slots := 0, locals := 23 } : Room)).room s m ([.ref (a o)] : List Value).toArray below meth c H locs 0 0 (MQ below (va_Qv (fun (u : SX6) => u = rs) (fun u t => mB D s.heap.size (wX6 cy a o S) (wX6 cy a o u) t) (va_A (wX6 cy a o S) s.heap.size)) ([.ref (a o)] : List Value).toArray s 0 0 (va_A (wX6 cy a o S) s.heap.size)) (F0 m 2 ls []) := by
    intro k2 hk2 f
    induction f with
    | zero =>
      intro v1_5 S1 H locs ls h hP hD hS hl
      rw [DX6_wipe_L2] at h
      cases h
    | succ f ih =>
      intro v1_5 S1 H locs ls h hP hD hS hl
      rw [DX6_wipe_L2] at h
      refine lv_iload_n hx hb dX6_wipe_2 rfl (lv_at hl 1 rfl) ?_
      refine lv_bipush (v := (7 : Int32)) hx hb dX6_wipe_3 (by decide) ?_
      refine lv_icmp_ge (tgt := 24) hx hb dX6_wipe_5 (by decide) (fun cc => ?_) (fun cc => ?_)
      · have h := ite_p cc h
        exact hk2 S1 H locs ls h hP hD hS (lv_sub hl [] rfl)
      · have h := ite_n cc h
        refine lv_aload_n hx hb dX6_wipe_8 rfl (lv_at hl 0 rfl) ?_
        refine va_get (D := D) (ci := 6) (v := .ref (a (o + 1))) (C := RX6) (T := TX6) (N := 1) hx hb hts hinX6 hown hK hP 0 rfl rfl 0 (by decide) hf11 (fun _ h9 => h9) rfl dX6_wipe_9 ?_
        refine lv_iload_n hx hb dX6_wipe_12 rfl (lv_at hl 1 rfl) ?_
        obtain ⟨g6, h⟩ := gd_some h
        refine r_aldR (n := 7) (o := o + 1) (ad := a) (j := (v1_5).toNatClampNeg) hx hb hK hP 1 2 rfl rfl (gIn_in g6) rfl dX6_wipe_13 ?_
        refine lv_iconst (v := (-1 : Int32)) hx hb dX6_wipe_14 (by decide) ?_
        refine mcC1 (b := (a (o + 1 + 1 + ((v1_5).toNatClampNeg)))) (e0 := .inl (cy 0, 12, .inl ((gX6_rows S1) ((v1_5).toNatClampNeg)))) (e1 := .inl (cy 0, 12, .inl (fun _ => (-1 : Int32)))) (ws' := (wX6 cy a o (uX6_rows S1 (upd2 (gX6_rows S1) ((v1_5).toNatClampNeg) (fun _ => (-1 : Int32)))))) (fun hp => va_runS (As := [.ref (a (o + 1 + 1 + ((v1_5).toNatClampNeg))), .int (-1 : Int32)]) (rest := []) ⟨hx, hb, hml, hown, hts⟩ (qJ7_fill l D cy (a (o + 1 + 1 + ((v1_5).toNatClampNeg))) 12 (by decide) ((gX6_rows S1) ((v1_5).toNatClampNeg)) (-1 : Int32) (H).size) (va_cwS 2 hts gX6_wipe_J7_fill_53178 rfl rfl rfl (by decide +kernel) ⟨Nat.le_of_ble_eq_true rfl, Nat.le_of_ble_eq_true rfl⟩) hp rfl rfl hl.1 rfl (lv_room (Nat.le_of_ble_eq_true rfl)) dX6_wipe_15 ⟨Nat.zero_le _, Nat.zero_le _⟩) hG hP hD hS hA (1 + 1 + ((v1_5).toNatClampNeg)) (all7 (P := fun j => (wX6 cy a o S1)[1 + 1 + j]? = some (a (o + 1 + 1 + j), .inl (cy 0, 12, .inl ((gX6_rows S1) j)))) rfl rfl rfl rfl rfl rfl rfl _ (gIn_lt g6)) (all7 (P := fun j => (wX6 cy a o S1).set (1 + 1 + j) (a (o + 1 + 1 + j), .inl (cy 0, 12, .inl (fun _ => (-1 : Int32)))) = (wX6 cy a o (uX6_rows S1 (upd2 (gX6_rows S1) j (fun _ => (-1 : Int32)))))) rfl rfl rfl rfl rfl rfl rfl _ (gIn_lt g6)) (fun H locs hP hD hS => ?_)
        obtain ⟨S7, eS8, h⟩ := lt_elim h
        have hP : va_P D vwCl (wX6 cy a o S7) H := by rw [eS8]; exact hP
        have hD : va_D (va_A (wX6 cy a o S) s.heap.size) (wX6 cy a o S7) := by rw [eS8]; exact hD
        refine lv_iinc (v := (v1_5 + (1 : Int32))) (lv' := [(1, .int (v1_5 + (1 : Int32))), (0, .ref (a o))]) hx hb dX6_wipe_18 hl (k := 1) rfl (by rfl) (by decide) rfl (fun ls hl => ?_)
        refine lv_goto (tgt := 2) hx hb dX6_wipe_21 (by decide) ?_
        exact ih (v1_5 + (1 : Int32)) S7 H locs ls h hP hD hS (lv_sub hl [1, 0] rfl)
  refine L9  _ ?_ fu (0 : Int32) S s.heap [] ls h hP hD hS (lv_sub hl [1, 0] rfl)
  intro S4 H locs ls h hP hD hS hl
  exact W.vret hx hb hr (fun t ht hW => ⟨⟨S4, rfl, some_in h, by rw [ht]; exact hP, hD⟩, hS.F ht⟩) hS.2.2 dX6_wipe_24
set_option maxHeartbeats 4000000 in
set_option maxRecDepth 100000 in
theorem qX4_workAt (l : Launch) (D : va_G) (cy : Nat → ClassId) (a : Nat → Nat) (o : Nat) (S : SX4) (p1 : Int32) (p2 : Int32) (p3 : Int32) (rs : Int32) (h : DX4_workAt S p1 p2 p3 = some rs) : Met l yX4_workAt wsX4_workAt ({ frames := 0, cells := 0, slots := 0, locals := 0 } : Room) (va_Pc [.ref (a o), .int p1, .int p2, .int p3] (fun U => va_P D vwCl (wX4 cy a o S) U.heap ∧ gK D cy U)) (vp_Si (fun z => z = rs)) 0 0 (fun _ => False) := by
  refine Met.ofW (cc := cX4_workAt) (maxL := 5) (ret := (some .int)) (by decide) rfl ?_
  intro p e s m args below meth c s₁ B hml hv
  obtain ⟨rfl, hP, hG⟩ := hv
  have hx := B.exec
  have hb := B.bytes
  have hr := B.returns
  have hts := atoms_spec (ws := wsX4_workAt) B.pre
  have hown : s.vm.findClass RX4 = some m.cls := findClass_of_methodNamed B.named
  have hlocks := B.notSynchronized
  have hK := hG.1
  have hinX4 := (by decide +kernel : ∀ w ∈ wsX40, w ∈ wsX4_workAt)
  have hf9 := hts (.fieldLink RX4 9 "PianoRounds$Programs" "places" "[I") (by decide +kernel)
  have hl := lv_entry ([.ref (a o), .int p1, .int p2, .int p3]) (n := 5) (Nat.le_of_ble_eq_true rfl)
  rw [lg_entry_eq]
  generalize (lg_sl ([.ref (a o), .int p1, .int p2, .int p3]) ++ List.replicate (5 - (lg_sl ([.ref (a o), .int p1, .int p2, .int p3])).length) Slot.unset).toArray = ls at hl ⊢
  have hl : lv_has ls 5 [(0, .ref (a o)), (1, .int p1), (2, .int p2), (3, .int p3)] := hl
  rw [DX4_workAt] at h
  refine lv_iload_n hx hb dX4_workAt_0 rfl (lv_at hl 1 rfl) ?_
  obtain ⟨j2, hj2, h⟩ := jn_elim h
  have Jj2 : ∀ (x1 : Int32) (ls : Array Slot), j2 x1 = some rs → lv_has ls 5 [(0, .ref (a o)), (1, .int p1), (2, .int p2), (3, .int p3)] → W p l e (headSpec wsX4_workAt ({ frames := 0, cells := 0, slots := 0, locals := 0 } : Room)).room s m ([.ref (a o), .int p1, .int p2, .int p3] : List Value).toArray below meth c s.heap [] 0 0 (MQ below (vp_Si (fun z => z = rs)) ([.ref (a o), .int p1, .int p2, .int p3] : List Value).toArray s 0 0 (fun _ => False)) (F0 m 33 ls [.int x1]) := by
    intro x1 ls h hl
    rw [hj2] at h
    refine lv_istore (lv' := [(4, .int x1), (0, .ref (a o)), (1, .int p1), (2, .int p2), (3, .int p3)]) hx hb dX4_workAt_33 hl (by decide) rfl (fun ls hl => ?_)
    refine lv_iload hx hb dX4_workAt_35 (lv_at hl 0 rfl) ?_
    obtain ⟨j4, hj4, h⟩ := jn_elim h
    have Jj4 : ∀ (x3 : Int32) (ls : Array Slot), j4 x3 = some rs → lv_has ls 5 [] → W p l e (headSpec wsX4_workAt ({ frames := 0, cells := 0, slots := 0, locals := 0 } : Room)).room s m ([.ref (a o), .int p1, .int p2, .int p3] : List Value).toArray below meth c s.heap [] 0 0 (MQ below (vp_Si (fun z => z = rs)) ([.ref (a o), .int p1, .int p2, .int p3] : List Value).toArray s 0 0 (fun _ => False)) (F0 m 58 ls [.int x3]) := by
      intro x3 ls h hl
      rw [hj4] at h
      exact W.iret (v := x3) hx hb hr (fun t ht hW => ⟨x3, rfl, some_in h, ht⟩) (fun q hq => nomatch hq) dX4_workAt_58
    refine lv_if_eq (tgt := 57) hx hb dX4_workAt_37 (by decide) (fun cc => ?_) (fun cc => ?_)
    · have h := ite_p cc h
      refine lv_iconst (v := (-1 : Int32)) hx hb dX4_workAt_57 (by decide) ?_
      exact Jj4 (-1 : Int32) ls h (lv_sub hl [] rfl)
    · have h := ite_n cc h
      refine lv_aload_n hx hb dX4_workAt_40 rfl (lv_at hl 1 rfl) ?_
      refine va_get (D := D) (ci := 4) (v := .ref (a (o + 1))) (C := RX4) (T := TX4) (N := 1) hx hb hts hinX4 hown hK hP 0 rfl rfl 0 (by decide) hf9 (fun _ h9 => h9) rfl dX4_workAt_41 ?_
      refine lv_iload_n hx hb dX4_workAt_44 rfl (lv_at hl 2 rfl) ?_
      refine lv_iconst (v := (4 : Int32)) hx hb dX4_workAt_45 (by decide) ?_
      refine lv_imul hx hb dX4_workAt_46 ?_
      refine lv_iload_n hx hb dX4_workAt_47 rfl (lv_at hl 3 rfl) ?_
      refine lv_iadd hx hb dX4_workAt_48 ?_
      refine lv_iconst (v := (4 : Int32)) hx hb dX4_workAt_49 (by decide) ?_
      refine lv_imul hx hb dX4_workAt_50 ?_
      refine lv_iload_n hx hb dX4_workAt_51 rfl (lv_at hl 4 rfl) ?_
      refine lv_iadd hx hb dX4_workAt_52 ?_
      obtain ⟨g5, h⟩ := gd_some h
      refine r_ald (f := (gX4_places S)) (n := 192) (v := ((gX4_places S) ((((((p1 * (4 : Int32)) + p2) * (4 : Int32)) + p3)).toNatClampNeg))) hx hb hK hP 1 0 rfl rfl (gIn_in g5) rfl dX4_workAt_53 ?_
      refine lv_goto (tgt := 58) hx hb dX4_workAt_54 (by decide) ?_
      exact Jj4 ((gX4_places S) ((((((p1 * (4 : Int32)) + p2) * (4 : Int32)) + p3)).toNatClampNeg)) ls h (lv_sub hl [] rfl)
  obtain ⟨j6, hj6, h⟩ := jn_elim h
  have Jj6 : ∀ (ls : Array Slot), j6 () = some rs → lv_has ls 5 [(0, .ref (a o)), (1, .int p1), (2, .int p2), (3, .int p3)] → W p l e (headSpec wsX4_workAt ({ frames := 0, cells := 0, slots := 0, locals := 0 } : Room)).room s m ([.ref (a o), .int p1, .int p2, .int p3] : List Value).toArray below meth c s.heap [] 0 0 (MQ below (vp_Si (fun z => z = rs)) ([.ref (a o), .int p1, .int p2, .int p3] : List Value).toArray s 0 0 (fun _ => False)) (F0 m 32 ls []) := by
    intro ls h hl
    rw [hj6] at h
    refine lv_iconst (v := (0 : Int32)) hx hb dX4_workAt_32 (by decide) ?_
    exact Jj2 (0 : Int32) ls h (lv_sub hl [0, 1, 2, 3] rfl)
  refine lv_if_lt (tgt := 32) hx hb dX4_workAt_1 (by decide) (fun cc => ?_) (fun cc => ?_)
  · have h := ite_p cc h
    exact Jj6  ls h (lv_sub hl [0, 1, 2, 3] rfl)
  · have h := ite_n cc h
    refine lv_iload_n hx hb dX4_workAt_4 rfl (lv_at hl 1 rfl) ?_
    refine lv_bipush (v := (12 : Int32)) hx hb dX4_workAt_5 (by decide) ?_
    refine lv_icmp_ge (tgt := 32) hx hb dX4_workAt_7 (by decide) (fun cc => ?_) (fun cc => ?_)
    · have h := ite_p cc h
      exact Jj6  ls h (lv_sub hl [0, 1, 2, 3] rfl)
    · have h := ite_n cc h
      refine lv_iload_n hx hb dX4_workAt_10 rfl (lv_at hl 2 rfl) ?_
      refine lv_if_lt (tgt := 32) hx hb dX4_workAt_11 (by decide) (fun cc => ?_) (fun cc => ?_)
      · have h := ite_p cc h
        exact Jj6  ls h (lv_sub hl [0, 1, 2, 3] rfl)
      · have h := ite_n cc h
        refine lv_iload_n hx hb dX4_workAt_14 rfl (lv_at hl 2 rfl) ?_
        refine lv_iconst (v := (4 : Int32)) hx hb dX4_workAt_15 (by decide) ?_
        refine lv_icmp_ge (tgt := 32) hx hb dX4_workAt_16 (by decide) (fun cc => ?_) (fun cc => ?_)
        · have h := ite_p cc h
          exact Jj6  ls h (lv_sub hl [0, 1, 2, 3] rfl)
        · have h := ite_n cc h
          refine lv_iload_n hx hb dX4_workAt_19 rfl (lv_at hl 3 rfl) ?_
          refine lv_if_lt (tgt := 32) hx hb dX4_workAt_20 (by decide) (fun cc => ?_) (fun cc => ?_)
          · have h := ite_p cc h
            exact Jj6  ls h (lv_sub hl [0, 1, 2, 3] rfl)
          · have h := ite_n cc h
            refine lv_iload_n hx hb dX4_workAt_23 rfl (lv_at hl 3 rfl) ?_
            refine lv_iconst (v := (4 : Int32)) hx hb dX4_workAt_24 (by decide) ?_
            refine lv_icmp_ge (tgt := 32) hx hb dX4_workAt_25 (by decide) (fun cc => ?_) (fun cc => ?_)
            · have h := ite_p cc h
              exact Jj6  ls h (lv_sub hl [0, 1, 2, 3] rfl)
            · have h := ite_n cc h
              refine lv_iconst (v := (1 : Int32)) hx hb dX4_workAt_28 (by decide) ?_
              refine lv_goto (tgt := 33) hx hb dX4_workAt_29 (by decide) ?_
              exact Jj2 (1 : Int32) ls h (lv_sub hl [0, 1, 2, 3] rfl)
set_option maxHeartbeats 4000000 in
set_option maxRecDepth 100000 in
theorem qX4_sizeOf (l : Launch) (D : va_G) (cy : Nat → ClassId) (a : Nat → Nat) (o : Nat) (S : SX4) (p1 : Int32) (p2 : Int32) (rs : Int32) (h : DX4_sizeOf S p1 p2 = some rs) : Met l yX4_sizeOf wsX4_sizeOf ({ frames := 1, cells := 0, slots := 0, locals := 24 } : Room) (va_Pc [.ref (a o), .int p1, .int p2] (fun U => va_P D vwCl (wX4 cy a o S) U.heap ∧ gK D cy U)) (vp_Si (fun z => z = rs)) 0 0 (fun _ => False) := by
  refine Met.ofW (cc := cX4_sizeOf) (maxL := 4) (ret := (some .int)) (by decide) rfl ?_
  intro p e s m args below meth c s₁ B hml hv
  obtain ⟨rfl, hP, hG⟩ := hv
  have hx := B.exec
  have hb := B.bytes
  have hr := B.returns
  have hts := atoms_spec (ws := wsX4_sizeOf) B.pre
  have hown : s.vm.findClass RX4 = some m.cls := findClass_of_methodNamed B.named
  have hlocks := B.notSynchronized
  have hK := hG.1
  have hl := lv_entry ([.ref (a o), .int p1, .int p2]) (n := 4) (Nat.le_of_ble_eq_true rfl)
  rw [lg_entry_eq]
  generalize (lg_sl ([.ref (a o), .int p1, .int p2]) ++ List.replicate (4 - (lg_sl ([.ref (a o), .int p1, .int p2])).length) Slot.unset).toArray = ls at hl ⊢
  have hl : lv_has ls 4 [(0, .ref (a o)), (1, .int p1), (2, .int p2)] := hl
  rw [DX4_sizeOf] at h
  refine lv_iconst (v := (0 : Int32)) hx hb dX4_sizeOf_0 (by decide) ?_
  refine lv_istore_n (lv' := [(3, .int (0 : Int32)), (0, .ref (a o)), (1, .int p1), (2, .int p2)]) hx hb dX4_sizeOf_1 rfl hl (by decide) rfl (fun ls hl => ?_)
  obtain ⟨j2, hj2, h⟩ := jn_elim h
  have Jj2 : ∀ (v3_1 : Int32) (ls : Array Slot), j2 v3_1 = some rs → lv_has ls 4 [(3, .int v3_1)] → W p l e (headSpec wsX4_sizeOf ({ frames := 1, cells := 0, slots := 0, locals := 24 } : Room)).room s m ([.ref (a o), .int p1, .int p2] : List Value).toArray below meth c s.heap [] 0 0 (MQ below (vp_Si (fun z => z = rs)) ([.ref (a o), .int p1, .int p2] : List Value).toArray s 0 0 (fun _ => False)) (F0 m 24 ls []) := by
    intro v3_1 ls h hl
    rw [hj2] at h
    refine lv_iload_n hx hb dX4_sizeOf_24 rfl (lv_at hl 0 rfl) ?_
    exact W.iret (v := v3_1) hx hb hr (fun t ht hW => ⟨v3_1, rfl, some_in h, ht⟩) (fun q hq => nomatch hq) dX4_sizeOf_25
  have L10 : ∀ (c1_3 : Int32) (c2_4 : Int32) (k5 : Int32 → Option (Int32)) (hk5 : ∀ (v3_6 : Int32) (ls : Array Slot), k5 v3_6 = some rs → lv_has ls 4 [(3, .int v3_6)] → W p l e (headSpec wsX4_sizeOf ({ frames := 1, cells := 0, slots := 0, locals := 24 } : Room)).room s m ([.ref (a o), .int p1, .int p2] : List Value).toArray below meth c s.heap [] 0 0 (MQ below (vp_Si (fun z => z = rs)) ([.ref (a o), .int p1, .int p2] : List Value).toArray s 0 0 (fun _ => False)) (F0 m 24 ls [])) (f : Nat) (v3_7 : Int32) (ls : Array Slot), DX4_sizeOf_L2 S c1_3 c2_4 k5 f v3_7 = some rs → lv_has ls 4 [(0, .ref (a o)), (1, .int c1_3), (2, .int c2_4), (3, .int v3_7)] → W p l e (headSpec wsX4_sizeOf ({ frames := 1, cells := 0, slots := 0, locals := 24 } : Room)).room s m ([.ref (a o), .int p1, .int p2] : List Value).toArray below meth c s.heap [] 0 0 (MQ below (vp_Si (fun z => z = rs)) ([.ref (a o), .int p1, .int p2] : List Value).toArray s 0 0 (fun _ => False)) (F0 m 2 ls []) := by
    intro c1_3 c2_4 k5 hk5 f
    induction f with
    | zero =>
      intro v3_7 ls h hl
      rw [DX4_sizeOf_L2] at h
      cases h
    | succ f ih =>
      intro v3_7 ls h hl
      rw [DX4_sizeOf_L2] at h
      refine lv_iload_n hx hb dX4_sizeOf_2 rfl (lv_at hl 3 rfl) ?_
      refine lv_iconst (v := (4 : Int32)) hx hb dX4_sizeOf_3 (by decide) ?_
      refine lv_icmp_ge (tgt := 24) hx hb dX4_sizeOf_4 (by decide) (fun cc => ?_) (fun cc => ?_)
      · have h := ite_p cc h
        exact hk5 v3_7 ls h (lv_sub hl [3] rfl)
      · have h := ite_n cc h
        refine lv_aload_n hx hb dX4_sizeOf_7 rfl (lv_at hl 0 rfl) ?_
        refine lv_iload_n hx hb dX4_sizeOf_8 rfl (lv_at hl 1 rfl) ?_
        refine lv_iload_n hx hb dX4_sizeOf_9 rfl (lv_at hl 2 rfl) ?_
        refine lv_iload_n hx hb dX4_sizeOf_10 rfl (lv_at hl 3 rfl) ?_
        obtain ⟨x8, e9, h⟩ := bd_some h
        refine pcV (As := [.int c1_3, .int c2_4, .int v3_7]) (rest := []) (q0 := 0) (qX4_workAt l D cy a o S c1_3 c2_4 v3_7 x8 e9) ⟨hx, hb, hml, hown, hts⟩ (cwV 3 hts gX4_sizeOf_X4_workAt rfl rfl rfl (by decide +kernel) ⟨Nat.le_of_ble_eq_true rfl, Nat.le_of_ble_eq_true rfl⟩) hG hP rfl rfl rfl hl.1 rfl (Nat.le_of_ble_eq_true rfl) dX4_sizeOf_11 ⟨Nat.zero_le _, Nat.zero_le _⟩ ?_
        refine lv_iconst (v := (-1 : Int32)) hx hb dX4_sizeOf_14 (by decide) ?_
        refine lv_icmp_eq (tgt := 24) hx hb dX4_sizeOf_15 (by decide) (fun cc => ?_) (fun cc => ?_)
        · have h := ite_p cc h
          exact hk5 v3_7 ls h (lv_sub hl [3] rfl)
        · have h := ite_n cc h
          refine lv_iinc (v := (v3_7 + (1 : Int32))) (lv' := [(3, .int (v3_7 + (1 : Int32))), (0, .ref (a o)), (1, .int c1_3), (2, .int c2_4)]) hx hb dX4_sizeOf_18 hl (k := 3) rfl (by rfl) (by decide) rfl (fun ls hl => ?_)
          refine lv_goto (tgt := 2) hx hb dX4_sizeOf_21 (by decide) ?_
          exact ih (v3_7 + (1 : Int32)) ls h (lv_sub hl [1, 2, 3, 0] rfl)
  exact L10 p1 p2 _ Jj2 fu (0 : Int32) ls h (lv_sub hl [1, 2, 3, 0] rfl)
set_option maxHeartbeats 4000000 in
set_option maxRecDepth 100000 in
theorem qX10_has (l : Launch) (D : va_G) (cy : Nat → ClassId) (a : Nat → Nat) (o : Nat) (S : SX10) (p1 : Int32) (rs : Int32) (h : DX10_has S p1 = some rs) : Met l yX10_has wsX10_has ({ frames := 0, cells := 0, slots := 0, locals := 0 } : Room) (va_Pc [.ref (a o), .int p1] (fun U => va_P D vwCl (wX10 cy a o S) U.heap ∧ gK D cy U)) (vp_Si (fun z => z = rs)) 0 0 (fun _ => False) := by
  refine Met.ofW (cc := cX10_has) (maxL := 2) (ret := (some .boolean)) (by decide) rfl ?_
  intro p e s m args below meth c s₁ B hml hv
  obtain ⟨rfl, hP, hG⟩ := hv
  have hx := B.exec
  have hb := B.bytes
  have hr := B.returns
  have hts := atoms_spec (ws := wsX10_has) B.pre
  have hown : s.vm.findClass RX10 = some m.cls := findClass_of_methodNamed B.named
  have hlocks := B.notSynchronized
  have hK := hG.1
  have hinX10 := (by decide +kernel : ∀ w ∈ wsX100, w ∈ wsX10_has)
  have hf21 := hts (.fieldLink RX10 21 "PianoRounds$Works" "count" "I") (by decide +kernel)
  have hl := lv_entry ([.ref (a o), .int p1]) (n := 2) (Nat.le_of_ble_eq_true rfl)
  rw [lg_entry_eq]
  generalize (lg_sl ([.ref (a o), .int p1]) ++ List.replicate (2 - (lg_sl ([.ref (a o), .int p1])).length) Slot.unset).toArray = ls at hl ⊢
  have hl : lv_has ls 2 [(0, .ref (a o)), (1, .int p1)] := hl
  rw [DX10_has] at h
  refine lv_iload_n hx hb dX10_has_0 rfl (lv_at hl 1 rfl) ?_
  obtain ⟨j2, hj2, h⟩ := jn_elim h
  have Jj2 : ∀ (x1 : Int32) (ls : Array Slot), j2 x1 = some rs → lv_has ls 2 [] → W p l e (headSpec wsX10_has ({ frames := 0, cells := 0, slots := 0, locals := 0 } : Room)).room s m ([.ref (a o), .int p1] : List Value).toArray below meth c s.heap [] 0 0 (MQ below (vp_Si (fun z => z = rs)) ([.ref (a o), .int p1] : List Value).toArray s 0 0 (fun _ => False)) (F0 m 23 ls [.int x1]) := by
    intro x1 ls h hl
    rw [hj2] at h
    obtain ⟨g3, h⟩ := gd_some h
    exact W.zret (v := x1) hx hb hr (zN g3) (fun t ht hW => ⟨x1, rfl, some_in h, ht⟩) (fun q hq => nomatch hq) dX10_has_23
  obtain ⟨j4, hj4, h⟩ := jn_elim h
  have Jj4 : ∀ (ls : Array Slot), j4 () = some rs → lv_has ls 2 [] → W p l e (headSpec wsX10_has ({ frames := 0, cells := 0, slots := 0, locals := 0 } : Room)).room s m ([.ref (a o), .int p1] : List Value).toArray below meth c s.heap [] 0 0 (MQ below (vp_Si (fun z => z = rs)) ([.ref (a o), .int p1] : List Value).toArray s 0 0 (fun _ => False)) (F0 m 22 ls []) := by
    intro ls h hl
    rw [hj4] at h
    refine lv_iconst (v := (0 : Int32)) hx hb dX10_has_22 (by decide) ?_
    exact Jj2 (0 : Int32) ls h (lv_sub hl [] rfl)
  refine lv_if_lt (tgt := 22) hx hb dX10_has_1 (by decide) (fun cc => ?_) (fun cc => ?_)
  · have h := ite_p cc h
    exact Jj4  ls h (lv_sub hl [] rfl)
  · have h := ite_n cc h
    refine lv_iload_n hx hb dX10_has_4 rfl (lv_at hl 1 rfl) ?_
    refine lv_aload_n hx hb dX10_has_5 rfl (lv_at hl 0 rfl) ?_
    refine va_get (D := D) (ci := 10) (v := .int (gX10_count S)) (C := RX10) (T := TX10) (N := 4) hx hb hts hinX10 hown hK hP 0 rfl rfl 0 (by decide) hf21 (fun _ h9 => h9) rfl dX10_has_6 ?_
    refine lv_icmp_ge (tgt := 22) hx hb dX10_has_9 (by decide) (fun cc => ?_) (fun cc => ?_)
    · have h := ite_p cc h
      exact Jj4  ls h (lv_sub hl [] rfl)
    · have h := ite_n cc h
      refine lv_iload_n hx hb dX10_has_12 rfl (lv_at hl 1 rfl) ?_
      refine lv_bipush (v := (30 : Int32)) hx hb dX10_has_13 (by decide) ?_
      refine lv_icmp_ge (tgt := 22) hx hb dX10_has_15 (by decide) (fun cc => ?_) (fun cc => ?_)
      · have h := ite_p cc h
        exact Jj4  ls h (lv_sub hl [] rfl)
      · have h := ite_n cc h
        refine lv_iconst (v := (1 : Int32)) hx hb dX10_has_18 (by decide) ?_
        refine lv_goto (tgt := 23) hx hb dX10_has_19 (by decide) ?_
        exact Jj2 (1 : Int32) ls h (lv_sub hl [] rfl)
set_option maxHeartbeats 4000000 in
set_option maxRecDepth 100000 in
theorem qX10_minutesOf (l : Launch) (D : va_G) (cy : Nat → ClassId) (a : Nat → Nat) (o : Nat) (S : SX10) (p1 : Int32) (rs : Int32) (h : DX10_minutesOf S p1 = some rs) : Met l yX10_minutesOf wsX10_minutesOf ({ frames := 1, cells := 0, slots := 0, locals := 21 } : Room) (va_Pc [.ref (a o), .int p1] (fun U => va_P D vwCl (wX10 cy a o S) U.heap ∧ gK D cy U)) (vp_Si (fun z => z = rs)) 0 0 (fun _ => False) := by
  refine Met.ofW (cc := cX10_minutesOf) (maxL := 2) (ret := (some .int)) (by decide) rfl ?_
  intro p e s m args below meth c s₁ B hml hv
  obtain ⟨rfl, hP, hG⟩ := hv
  have hx := B.exec
  have hb := B.bytes
  have hr := B.returns
  have hts := atoms_spec (ws := wsX10_minutesOf) B.pre
  have hown : s.vm.findClass RX10 = some m.cls := findClass_of_methodNamed B.named
  have hlocks := B.notSynchronized
  have hK := hG.1
  have hinX10 := (by decide +kernel : ∀ w ∈ wsX100, w ∈ wsX10_minutesOf)
  have hf18 := hts (.fieldLink RX10 18 "PianoRounds$Works" "lengths" "[I") (by decide +kernel)
  have hl := lv_entry ([.ref (a o), .int p1]) (n := 2) (Nat.le_of_ble_eq_true rfl)
  rw [lg_entry_eq]
  generalize (lg_sl ([.ref (a o), .int p1]) ++ List.replicate (2 - (lg_sl ([.ref (a o), .int p1])).length) Slot.unset).toArray = ls at hl ⊢
  have hl : lv_has ls 2 [(0, .ref (a o)), (1, .int p1)] := hl
  rw [DX10_minutesOf] at h
  refine lv_aload_n hx hb dX10_minutesOf_0 rfl (lv_at hl 0 rfl) ?_
  refine lv_iload_n hx hb dX10_minutesOf_1 rfl (lv_at hl 1 rfl) ?_
  obtain ⟨x1, e2, h⟩ := bd_some h
  refine pcV (As := [.int p1]) (rest := []) (q0 := 0) (qX10_has l D cy a o S p1 x1 e2) ⟨hx, hb, hml, hown, hts⟩ (cwV 1 hts gX10_minutesOf_X10_has rfl rfl rfl (by decide +kernel) ⟨Nat.le_of_ble_eq_true rfl, Nat.le_of_ble_eq_true rfl⟩) hG hP rfl rfl rfl hl.1 rfl (Nat.le_of_ble_eq_true rfl) dX10_minutesOf_2 ⟨Nat.zero_le _, Nat.zero_le _⟩ ?_
  obtain ⟨j4, hj4, h⟩ := jn_elim h
  have Jj4 : ∀ (x3 : Int32) (ls : Array Slot), j4 x3 = some rs → lv_has ls 2 [] → W p l e (headSpec wsX10_minutesOf ({ frames := 1, cells := 0, slots := 0, locals := 21 } : Room)).room s m ([.ref (a o), .int p1] : List Value).toArray below meth c s.heap [] 0 0 (MQ below (vp_Si (fun z => z = rs)) ([.ref (a o), .int p1] : List Value).toArray s 0 0 (fun _ => False)) (F0 m 18 ls [.int x3]) := by
    intro x3 ls h hl
    rw [hj4] at h
    exact W.iret (v := x3) hx hb hr (fun t ht hW => ⟨x3, rfl, some_in h, ht⟩) (fun q hq => nomatch hq) dX10_minutesOf_18
  refine lv_if_eq (tgt := 17) hx hb dX10_minutesOf_5 (by decide) (fun cc => ?_) (fun cc => ?_)
  · have h := ite_p cc h
    refine lv_iconst (v := (0 : Int32)) hx hb dX10_minutesOf_17 (by decide) ?_
    exact Jj4 (0 : Int32) ls h (lv_sub hl [] rfl)
  · have h := ite_n cc h
    refine lv_aload_n hx hb dX10_minutesOf_8 rfl (lv_at hl 0 rfl) ?_
    refine va_get (D := D) (ci := 10) (v := .ref (a (o + 3))) (C := RX10) (T := TX10) (N := 4) hx hb hts hinX10 hown hK hP 0 rfl rfl 3 (by decide) hf18 (fun _ h9 => h9) rfl dX10_minutesOf_9 ?_
    refine lv_iload_n hx hb dX10_minutesOf_12 rfl (lv_at hl 1 rfl) ?_
    obtain ⟨g5, h⟩ := gd_some h
    refine r_ald (f := (gX10_lengths S)) (n := 30) (v := ((gX10_lengths S) ((p1).toNatClampNeg))) hx hb hK hP 3 0 rfl rfl (gIn_in g5) rfl dX10_minutesOf_13 ?_
    refine lv_goto (tgt := 18) hx hb dX10_minutesOf_14 (by decide) ?_
    exact Jj4 ((gX10_lengths S) ((p1).toNatClampNeg)) ls h (lv_sub hl [] rfl)
set_option maxHeartbeats 4000000 in
set_option maxRecDepth 100000 in
theorem qX4_minutesOf (l : Launch) (D : va_G) (cy : Nat → ClassId) (a : Nat → Nat) (o : Nat) (b3 : Nat → Nat) (z3 : Nat) (S : SX4) (T3 : SX10) (p1 : Int32) (p2 : Int32) (rs : Int32) (h : DX4_minutesOf S T3 p1 p2 = some rs) : Met l yX4_minutesOf wsX4_minutesOf ({ frames := 2, cells := 0, slots := 0, locals := 42 } : Room) (va_Pc [.ref (a o), .int p1, .int p2, .ref (b3 z3)] (fun U => va_P D vwCl ((wX4 cy a o S) ++ (wX10 cy b3 z3 T3)) U.heap ∧ gK D cy U)) (vp_Si (fun z => z = rs)) 0 0 (fun _ => False) := by
  refine Met.ofW (cc := cX4_minutesOf) (maxL := 6) (ret := (some .int)) (by decide) rfl ?_
  intro p e s m args below meth c s₁ B hml hv
  obtain ⟨rfl, hP, hG⟩ := hv
  have hx := B.exec
  have hb := B.bytes
  have hr := B.returns
  have hts := atoms_spec (ws := wsX4_minutesOf) B.pre
  have hown : s.vm.findClass RX4 = some m.cls := findClass_of_methodNamed B.named
  have hlocks := B.notSynchronized
  have hK := hG.1
  have hl := lv_entry ([.ref (a o), .int p1, .int p2, .ref (b3 z3)]) (n := 6) (Nat.le_of_ble_eq_true rfl)
  rw [lg_entry_eq]
  generalize (lg_sl ([.ref (a o), .int p1, .int p2, .ref (b3 z3)]) ++ List.replicate (6 - (lg_sl ([.ref (a o), .int p1, .int p2, .ref (b3 z3)])).length) Slot.unset).toArray = ls at hl ⊢
  have hl : lv_has ls 6 [(0, .ref (a o)), (1, .int p1), (2, .int p2), (3, .ref (b3 z3))] := hl
  rw [DX4_minutesOf] at h
  refine lv_iconst (v := (0 : Int32)) hx hb dX4_minutesOf_0 (by decide) ?_
  refine lv_istore (lv' := [(4, .int (0 : Int32)), (0, .ref (a o)), (1, .int p1), (2, .int p2), (3, .ref (b3 z3))]) hx hb dX4_minutesOf_1 hl (by decide) rfl (fun ls hl => ?_)
  refine lv_iconst (v := (0 : Int32)) hx hb dX4_minutesOf_3 (by decide) ?_
  refine lv_istore (lv' := [(5, .int (0 : Int32)), (4, .int (0 : Int32)), (0, .ref (a o)), (1, .int p1), (2, .int p2), (3, .ref (b3 z3))]) hx hb dX4_minutesOf_4 hl (by decide) rfl (fun ls hl => ?_)
  have L12 : ∀ (c1_1 : Int32) (c2_2 : Int32) (k3 : Int32 → Option (Int32)) (hk3 : ∀ (v4_4 : Int32) (ls : Array Slot), k3 v4_4 = some rs → lv_has ls 6 [(4, .int v4_4)] → W p l e (headSpec wsX4_minutesOf ({ frames := 2, cells := 0, slots := 0, locals := 42 } : Room)).room s m ([.ref (a o), .int p1, .int p2, .ref (b3 z3)] : List Value).toArray below meth c s.heap [] 0 0 (MQ below (vp_Si (fun z => z = rs)) ([.ref (a o), .int p1, .int p2, .ref (b3 z3)] : List Value).toArray s 0 0 (fun _ => False)) (F0 m 35 ls [])) (f : Nat) (v4_6 : Int32) (v5_7 : Int32) (ls : Array Slot), DX4_minutesOf_L6 S T3 c1_1 c2_2 k3 f v4_6 v5_7 = some rs → lv_has ls 6 [(0, .ref (a o)), (1, .int c1_1), (2, .int c2_2), (3, .ref (b3 z3)), (4, .int v4_6), (5, .int v5_7)] → W p l e (headSpec wsX4_minutesOf ({ frames := 2, cells := 0, slots := 0, locals := 42 } : Room)).room s m ([.ref (a o), .int p1, .int p2, .ref (b3 z3)] : List Value).toArray below meth c s.heap [] 0 0 (MQ below (vp_Si (fun z => z = rs)) ([.ref (a o), .int p1, .int p2, .ref (b3 z3)] : List Value).toArray s 0 0 (fun _ => False)) (F0 m 6 ls []) := by
    intro c1_1 c2_2 k3 hk3 f
    induction f with
    | zero =>
      intro v4_6 v5_7 ls h hl
      rw [DX4_minutesOf_L6] at h
      cases h
    | succ f ih =>
      intro v4_6 v5_7 ls h hl
      rw [DX4_minutesOf_L6] at h
      refine lv_iload hx hb dX4_minutesOf_6 (lv_at hl 5 rfl) ?_
      refine lv_iconst (v := (4 : Int32)) hx hb dX4_minutesOf_8 (by decide) ?_
      refine lv_icmp_ge (tgt := 35) hx hb dX4_minutesOf_9 (by decide) (fun cc => ?_) (fun cc => ?_)
      · have h := ite_p cc h
        exact hk3 v4_6 ls h (lv_sub hl [4] rfl)
      · have h := ite_n cc h
        refine lv_iload hx hb dX4_minutesOf_12 (lv_at hl 4 rfl) ?_
        refine lv_aload_n hx hb dX4_minutesOf_14 rfl (lv_at hl 3 rfl) ?_
        refine lv_aload_n hx hb dX4_minutesOf_15 rfl (lv_at hl 0 rfl) ?_
        refine lv_iload_n hx hb dX4_minutesOf_16 rfl (lv_at hl 1 rfl) ?_
        refine lv_iload_n hx hb dX4_minutesOf_17 rfl (lv_at hl 2 rfl) ?_
        refine lv_iload hx hb dX4_minutesOf_18 (lv_at hl 5 rfl) ?_
        obtain ⟨x8, e9, h⟩ := bd_some h
        refine pcV (As := [.int c1_1, .int c2_2, .int v5_7]) (rest := [.ref (b3 z3), .int v4_6]) (q0 := 0) (qX4_workAt l D cy a o S c1_1 c2_2 v5_7 x8 e9) ⟨hx, hb, hml, hown, hts⟩ (cwV 3 hts gX4_minutesOf_X4_workAt rfl rfl rfl (by decide +kernel) ⟨Nat.le_of_ble_eq_true rfl, Nat.le_of_ble_eq_true rfl⟩) hG (P_seg (X := ([] : va_W)) (c := (wX4 cy a o S)) (Y := (wX10 cy b3 z3 T3)) hP (by simp only [List.append_assoc, List.nil_append, List.append_nil] <;> rfl)) rfl rfl rfl hl.1 rfl (Nat.le_of_ble_eq_true rfl) dX4_minutesOf_20 ⟨Nat.zero_le _, Nat.zero_le _⟩ ?_
        obtain ⟨x10, e11, h⟩ := bd_some h
        refine pcV (As := [.int x8]) (rest := [.int v4_6]) (q0 := 0) (qX10_minutesOf l D cy b3 z3 T3 x8 x10 e11) ⟨hx, hb, hml, hown, hts⟩ (cwV 1 hts gX4_minutesOf_X10_minutesOf rfl rfl rfl (by decide +kernel) ⟨Nat.le_of_ble_eq_true rfl, Nat.le_of_ble_eq_true rfl⟩) hG (P_seg (X := (wX4 cy a o S)) (c := (wX10 cy b3 z3 T3)) (Y := ([] : va_W)) hP (by simp only [List.append_assoc, List.nil_append, List.append_nil] <;> rfl)) rfl rfl rfl hl.1 rfl (Nat.le_of_ble_eq_true rfl) dX4_minutesOf_23 ⟨Nat.zero_le _, Nat.zero_le _⟩ ?_
        refine lv_iadd hx hb dX4_minutesOf_26 ?_
        refine lv_istore (lv' := [(4, .int (v4_6 + x10)), (0, .ref (a o)), (1, .int c1_1), (2, .int c2_2), (3, .ref (b3 z3)), (5, .int v5_7)]) hx hb dX4_minutesOf_27 hl (by decide) rfl (fun ls hl => ?_)
        refine lv_iinc (v := (v5_7 + (1 : Int32))) (lv' := [(5, .int (v5_7 + (1 : Int32))), (4, .int (v4_6 + x10)), (0, .ref (a o)), (1, .int c1_1), (2, .int c2_2), (3, .ref (b3 z3))]) hx hb dX4_minutesOf_29 hl (k := 5) rfl (by rfl) (by decide) rfl (fun ls hl => ?_)
        refine lv_goto (tgt := 6) hx hb dX4_minutesOf_32 (by decide) ?_
        exact ih (v4_6 + x10) (v5_7 + (1 : Int32)) ls h (lv_sub hl [2, 3, 4, 5, 1, 0] rfl)
  refine L12 p1 p2 _ ?_ fu (0 : Int32) (0 : Int32) ls h (lv_sub hl [2, 3, 4, 5, 1, 0] rfl)
  intro v4_5 ls h hl
  refine lv_iload hx hb dX4_minutesOf_35 (lv_at hl 0 rfl) ?_
  exact W.iret (v := v4_5) hx hb hr (fun t ht hW => ⟨v4_5, rfl, some_in h, ht⟩) (fun q hq => nomatch hq) dX4_minutesOf_37
set_option maxHeartbeats 4000000 in
set_option maxRecDepth 100000 in
theorem qX10_eraOf (l : Launch) (D : va_G) (cy : Nat → ClassId) (a : Nat → Nat) (o : Nat) (S : SX10) (p1 : Int32) (rs : Int32) (h : DX10_eraOf S p1 = some rs) : Met l yX10_eraOf wsX10_eraOf ({ frames := 1, cells := 0, slots := 0, locals := 21 } : Room) (va_Pc [.ref (a o), .int p1] (fun U => va_P D vwCl (wX10 cy a o S) U.heap ∧ gK D cy U)) (vp_Si (fun z => z = rs)) 0 0 (fun _ => False) := by
  refine Met.ofW (cc := cX10_eraOf) (maxL := 2) (ret := (some .int)) (by decide) rfl ?_
  intro p e s m args below meth c s₁ B hml hv
  obtain ⟨rfl, hP, hG⟩ := hv
  have hx := B.exec
  have hb := B.bytes
  have hr := B.returns
  have hts := atoms_spec (ws := wsX10_eraOf) B.pre
  have hown : s.vm.findClass RX10 = some m.cls := findClass_of_methodNamed B.named
  have hlocks := B.notSynchronized
  have hK := hG.1
  have hinX10 := (by decide +kernel : ∀ w ∈ wsX100, w ∈ wsX10_eraOf)
  have hf15 := hts (.fieldLink RX10 15 "PianoRounds$Works" "eras" "[I") (by decide +kernel)
  have hl := lv_entry ([.ref (a o), .int p1]) (n := 2) (Nat.le_of_ble_eq_true rfl)
  rw [lg_entry_eq]
  generalize (lg_sl ([.ref (a o), .int p1]) ++ List.replicate (2 - (lg_sl ([.ref (a o), .int p1])).length) Slot.unset).toArray = ls at hl ⊢
  have hl : lv_has ls 2 [(0, .ref (a o)), (1, .int p1)] := hl
  rw [DX10_eraOf] at h
  refine lv_aload_n hx hb dX10_eraOf_0 rfl (lv_at hl 0 rfl) ?_
  refine lv_iload_n hx hb dX10_eraOf_1 rfl (lv_at hl 1 rfl) ?_
  obtain ⟨x1, e2, h⟩ := bd_some h
  refine pcV (As := [.int p1]) (rest := []) (q0 := 0) (qX10_has l D cy a o S p1 x1 e2) ⟨hx, hb, hml, hown, hts⟩ (cwV 1 hts gX10_eraOf_X10_has rfl rfl rfl (by decide +kernel) ⟨Nat.le_of_ble_eq_true rfl, Nat.le_of_ble_eq_true rfl⟩) hG hP rfl rfl rfl hl.1 rfl (Nat.le_of_ble_eq_true rfl) dX10_eraOf_2 ⟨Nat.zero_le _, Nat.zero_le _⟩ ?_
  obtain ⟨j4, hj4, h⟩ := jn_elim h
  have Jj4 : ∀ (x3 : Int32) (ls : Array Slot), j4 x3 = some rs → lv_has ls 2 [] → W p l e (headSpec wsX10_eraOf ({ frames := 1, cells := 0, slots := 0, locals := 21 } : Room)).room s m ([.ref (a o), .int p1] : List Value).toArray below meth c s.heap [] 0 0 (MQ below (vp_Si (fun z => z = rs)) ([.ref (a o), .int p1] : List Value).toArray s 0 0 (fun _ => False)) (F0 m 18 ls [.int x3]) := by
    intro x3 ls h hl
    rw [hj4] at h
    exact W.iret (v := x3) hx hb hr (fun t ht hW => ⟨x3, rfl, some_in h, ht⟩) (fun q hq => nomatch hq) dX10_eraOf_18
  refine lv_if_eq (tgt := 17) hx hb dX10_eraOf_5 (by decide) (fun cc => ?_) (fun cc => ?_)
  · have h := ite_p cc h
    refine lv_iconst (v := (-1 : Int32)) hx hb dX10_eraOf_17 (by decide) ?_
    exact Jj4 (-1 : Int32) ls h (lv_sub hl [] rfl)
  · have h := ite_n cc h
    refine lv_aload_n hx hb dX10_eraOf_8 rfl (lv_at hl 0 rfl) ?_
    refine va_get (D := D) (ci := 10) (v := .ref (a (o + 2))) (C := RX10) (T := TX10) (N := 4) hx hb hts hinX10 hown hK hP 0 rfl rfl 2 (by decide) hf15 (fun _ h9 => h9) rfl dX10_eraOf_9 ?_
    refine lv_iload_n hx hb dX10_eraOf_12 rfl (lv_at hl 1 rfl) ?_
    obtain ⟨g5, h⟩ := gd_some h
    refine r_ald (f := (gX10_eras S)) (n := 30) (v := ((gX10_eras S) ((p1).toNatClampNeg))) hx hb hK hP 2 0 rfl rfl (gIn_in g5) rfl dX10_eraOf_13 ?_
    refine lv_goto (tgt := 18) hx hb dX10_eraOf_14 (by decide) ?_
    exact Jj4 ((gX10_eras S) ((p1).toNatClampNeg)) ls h (lv_sub hl [] rfl)
set_option maxHeartbeats 4000000 in
set_option maxRecDepth 100000 in
theorem qX4_erasOf (l : Launch) (D : va_G) (cy : Nat → ClassId) (a : Nat → Nat) (o : Nat) (b3 : Nat → Nat) (z3 : Nat) (S : SX4) (T3 : SX10) (p1 : Int32) (p2 : Int32) (rs : Int32) (h : DX4_erasOf S T3 p1 p2 = some rs) : Met l yX4_erasOf wsX4_erasOf ({ frames := 2, cells := 0, slots := 0, locals := 42 } : Room) (va_Pc [.ref (a o), .int p1, .int p2, .ref (b3 z3)] (fun U => va_P D vwCl ((wX4 cy a o S) ++ (wX10 cy b3 z3 T3)) U.heap ∧ gK D cy U)) (vp_Si (fun z => z = rs)) 0 0 (fun _ => False) := by
  refine Met.ofW (cc := cX4_erasOf) (maxL := 7) (ret := (some .int)) (by decide) rfl ?_
  intro p e s m args below meth c s₁ B hml hv
  obtain ⟨rfl, hP, hG⟩ := hv
  have hx := B.exec
  have hb := B.bytes
  have hr := B.returns
  have hts := atoms_spec (ws := wsX4_erasOf) B.pre
  have hown : s.vm.findClass RX4 = some m.cls := findClass_of_methodNamed B.named
  have hlocks := B.notSynchronized
  have hK := hG.1
  have hl := lv_entry ([.ref (a o), .int p1, .int p2, .ref (b3 z3)]) (n := 7) (Nat.le_of_ble_eq_true rfl)
  rw [lg_entry_eq]
  generalize (lg_sl ([.ref (a o), .int p1, .int p2, .ref (b3 z3)]) ++ List.replicate (7 - (lg_sl ([.ref (a o), .int p1, .int p2, .ref (b3 z3)])).length) Slot.unset).toArray = ls at hl ⊢
  have hl : lv_has ls 7 [(0, .ref (a o)), (1, .int p1), (2, .int p2), (3, .ref (b3 z3))] := hl
  rw [DX4_erasOf] at h
  refine lv_iconst (v := (0 : Int32)) hx hb dX4_erasOf_0 (by decide) ?_
  refine lv_istore (lv' := [(4, .int (0 : Int32)), (0, .ref (a o)), (1, .int p1), (2, .int p2), (3, .ref (b3 z3))]) hx hb dX4_erasOf_1 hl (by decide) rfl (fun ls hl => ?_)
  refine lv_iconst (v := (0 : Int32)) hx hb dX4_erasOf_3 (by decide) ?_
  refine lv_istore (lv' := [(5, .int (0 : Int32)), (4, .int (0 : Int32)), (0, .ref (a o)), (1, .int p1), (2, .int p2), (3, .ref (b3 z3))]) hx hb dX4_erasOf_4 hl (by decide) rfl (fun ls hl => ?_)
  have L14 : ∀ (c1_1 : Int32) (c2_2 : Int32) (k3 : Int32 → Option (Int32)) (hk3 : ∀ (v4_4 : Int32) (ls : Array Slot), k3 v4_4 = some rs → lv_has ls 7 [(4, .int v4_4)] → W p l e (headSpec wsX4_erasOf ({ frames := 2, cells := 0, slots := 0, locals := 42 } : Room)).room s m ([.ref (a o), .int p1, .int p2, .ref (b3 z3)] : List Value).toArray below meth c s.heap [] 0 0 (MQ below (vp_Si (fun z => z = rs)) ([.ref (a o), .int p1, .int p2, .ref (b3 z3)] : List Value).toArray s 0 0 (fun _ => False)) (F0 m 47 ls [])) (f : Nat) (v4_6 : Int32) (v5_7 : Int32) (ls : Array Slot), DX4_erasOf_L6 S T3 c1_1 c2_2 k3 f v4_6 v5_7 = some rs → lv_has ls 7 [(0, .ref (a o)), (1, .int c1_1), (2, .int c2_2), (3, .ref (b3 z3)), (4, .int v4_6), (5, .int v5_7)] → W p l e (headSpec wsX4_erasOf ({ frames := 2, cells := 0, slots := 0, locals := 42 } : Room)).room s m ([.ref (a o), .int p1, .int p2, .ref (b3 z3)] : List Value).toArray below meth c s.heap [] 0 0 (MQ below (vp_Si (fun z => z = rs)) ([.ref (a o), .int p1, .int p2, .ref (b3 z3)] : List Value).toArray s 0 0 (fun _ => False)) (F0 m 6 ls []) := by
    intro c1_1 c2_2 k3 hk3 f
    induction f with
    | zero =>
      intro v4_6 v5_7 ls h hl
      rw [DX4_erasOf_L6] at h
      cases h
    | succ f ih =>
      intro v4_6 v5_7 ls h hl
      rw [DX4_erasOf_L6] at h
      refine lv_iload hx hb dX4_erasOf_6 (lv_at hl 5 rfl) ?_
      refine lv_iconst (v := (4 : Int32)) hx hb dX4_erasOf_8 (by decide) ?_
      refine lv_icmp_ge (tgt := 47) hx hb dX4_erasOf_9 (by decide) (fun cc => ?_) (fun cc => ?_)
      · have h := ite_p cc h
        exact hk3 v4_6 ls h (lv_sub hl [4] rfl)
      · have h := ite_n cc h
        refine lv_aload_n hx hb dX4_erasOf_12 rfl (lv_at hl 3 rfl) ?_
        refine lv_aload_n hx hb dX4_erasOf_13 rfl (lv_at hl 0 rfl) ?_
        refine lv_iload_n hx hb dX4_erasOf_14 rfl (lv_at hl 1 rfl) ?_
        refine lv_iload_n hx hb dX4_erasOf_15 rfl (lv_at hl 2 rfl) ?_
        refine lv_iload hx hb dX4_erasOf_16 (lv_at hl 5 rfl) ?_
        obtain ⟨x8, e9, h⟩ := bd_some h
        refine pcV (As := [.int c1_1, .int c2_2, .int v5_7]) (rest := [.ref (b3 z3)]) (q0 := 0) (qX4_workAt l D cy a o S c1_1 c2_2 v5_7 x8 e9) ⟨hx, hb, hml, hown, hts⟩ (cwV 3 hts gX4_erasOf_X4_workAt rfl rfl rfl (by decide +kernel) ⟨Nat.le_of_ble_eq_true rfl, Nat.le_of_ble_eq_true rfl⟩) hG (P_seg (X := ([] : va_W)) (c := (wX4 cy a o S)) (Y := (wX10 cy b3 z3 T3)) hP (by simp only [List.append_assoc, List.nil_append, List.append_nil] <;> rfl)) rfl rfl rfl hl.1 rfl (Nat.le_of_ble_eq_true rfl) dX4_erasOf_18 ⟨Nat.zero_le _, Nat.zero_le _⟩ ?_
        obtain ⟨x10, e11, h⟩ := bd_some h
        refine pcV (As := [.int x8]) (rest := []) (q0 := 0) (qX10_eraOf l D cy b3 z3 T3 x8 x10 e11) ⟨hx, hb, hml, hown, hts⟩ (cwV 1 hts gX4_erasOf_X10_eraOf rfl rfl rfl (by decide +kernel) ⟨Nat.le_of_ble_eq_true rfl, Nat.le_of_ble_eq_true rfl⟩) hG (P_seg (X := (wX4 cy a o S)) (c := (wX10 cy b3 z3 T3)) (Y := ([] : va_W)) hP (by simp only [List.append_assoc, List.nil_append, List.append_nil] <;> rfl)) rfl rfl rfl hl.1 rfl (Nat.le_of_ble_eq_true rfl) dX4_erasOf_21 ⟨Nat.zero_le _, Nat.zero_le _⟩ ?_
        refine lv_istore (lv' := [(6, .int x10), (0, .ref (a o)), (1, .int c1_1), (2, .int c2_2), (3, .ref (b3 z3)), (4, .int v4_6), (5, .int v5_7)]) hx hb dX4_erasOf_24 hl (by decide) rfl (fun ls hl => ?_)
        refine lv_iload hx hb dX4_erasOf_26 (lv_at hl 0 rfl) ?_
        refine lv_iconst (v := (-1 : Int32)) hx hb dX4_erasOf_28 (by decide) ?_
        obtain ⟨j13, hj13, h⟩ := jn_elim h
        have Jj13 : ∀ (v4_12 : Int32) (ls : Array Slot), j13 v4_12 = some rs → lv_has ls 7 [(0, .ref (a o)), (1, .int c1_1), (2, .int c2_2), (3, .ref (b3 z3)), (4, .int v4_12), (5, .int v5_7)] → W p l e (headSpec wsX4_erasOf ({ frames := 2, cells := 0, slots := 0, locals := 42 } : Room)).room s m ([.ref (a o), .int p1, .int p2, .ref (b3 z3)] : List Value).toArray below meth c s.heap [] 0 0 (MQ below (vp_Si (fun z => z = rs)) ([.ref (a o), .int p1, .int p2, .ref (b3 z3)] : List Value).toArray s 0 0 (fun _ => False)) (F0 m 41 ls []) := by
          intro v4_12 ls h hl
          rw [hj13] at h
          refine lv_iinc (v := (v5_7 + (1 : Int32))) (lv' := [(5, .int (v5_7 + (1 : Int32))), (0, .ref (a o)), (1, .int c1_1), (2, .int c2_2), (3, .ref (b3 z3)), (4, .int v4_12)]) hx hb dX4_erasOf_41 hl (k := 5) rfl (by rfl) (by decide) rfl (fun ls hl => ?_)
          refine lv_goto (tgt := 6) hx hb dX4_erasOf_44 (by decide) ?_
          exact ih v4_12 (v5_7 + (1 : Int32)) ls h (lv_sub hl [1, 2, 3, 4, 5, 0] rfl)
        refine lv_icmp_eq (tgt := 41) hx hb dX4_erasOf_29 (by decide) (fun cc => ?_) (fun cc => ?_)
        · have h := ite_p cc h
          exact Jj13 v4_6 ls h (lv_sub hl [1, 2, 3, 4, 5, 6] rfl)
        · have h := ite_n cc h
          refine lv_iload hx hb dX4_erasOf_32 (lv_at hl 5 rfl) ?_
          refine lv_iconst (v := (1 : Int32)) hx hb dX4_erasOf_34 (by decide) ?_
          refine lv_iload hx hb dX4_erasOf_35 (lv_at hl 0 rfl) ?_
          refine lv_ishl hx hb dX4_erasOf_37 ?_
          refine lv_ior hx hb dX4_erasOf_38 ?_
          refine lv_istore (lv' := [(4, .int (v4_6 ||| ((1 : Int32) <<< (x10 &&& 31)))), (6, .int x10), (0, .ref (a o)), (1, .int c1_1), (2, .int c2_2), (3, .ref (b3 z3)), (5, .int v5_7)]) hx hb dX4_erasOf_39 hl (by decide) rfl (fun ls hl => ?_)
          exact Jj13 (v4_6 ||| ((1 : Int32) <<< (x10 &&& 31))) ls h (lv_sub hl [2, 3, 4, 5, 0, 6] rfl)
  refine L14 p1 p2 _ ?_ fu (0 : Int32) (0 : Int32) ls h (lv_sub hl [2, 3, 4, 5, 1, 0] rfl)
  intro v4_5 ls h hl
  refine lv_iload hx hb dX4_erasOf_47 (lv_at hl 0 rfl) ?_
  exact W.iret (v := v4_5) hx hb hr (fun t ht hW => ⟨v4_5, rfl, some_in h, ht⟩) (fun q hq => nomatch hq) dX4_erasOf_49
set_option maxHeartbeats 4000000 in
set_option maxRecDepth 100000 in
theorem qX10_composerOf (l : Launch) (D : va_G) (cy : Nat → ClassId) (a : Nat → Nat) (o : Nat) (S : SX10) (p1 : Int32) (rs : Int32) (h : DX10_composerOf S p1 = some rs) : Met l yX10_composerOf wsX10_composerOf ({ frames := 1, cells := 0, slots := 0, locals := 21 } : Room) (va_Pc [.ref (a o), .int p1] (fun U => va_P D vwCl (wX10 cy a o S) U.heap ∧ gK D cy U)) (vp_Si (fun z => z = rs)) 0 0 (fun _ => False) := by
  refine Met.ofW (cc := cX10_composerOf) (maxL := 2) (ret := (some .int)) (by decide) rfl ?_
  intro p e s m args below meth c s₁ B hml hv
  obtain ⟨rfl, hP, hG⟩ := hv
  have hx := B.exec
  have hb := B.bytes
  have hr := B.returns
  have hts := atoms_spec (ws := wsX10_composerOf) B.pre
  have hown : s.vm.findClass RX10 = some m.cls := findClass_of_methodNamed B.named
  have hlocks := B.notSynchronized
  have hK := hG.1
  have hinX10 := (by decide +kernel : ∀ w ∈ wsX100, w ∈ wsX10_composerOf)
  have hf9 := hts (.fieldLink RX10 9 "PianoRounds$Works" "composers" "[I") (by decide +kernel)
  have hl := lv_entry ([.ref (a o), .int p1]) (n := 2) (Nat.le_of_ble_eq_true rfl)
  rw [lg_entry_eq]
  generalize (lg_sl ([.ref (a o), .int p1]) ++ List.replicate (2 - (lg_sl ([.ref (a o), .int p1])).length) Slot.unset).toArray = ls at hl ⊢
  have hl : lv_has ls 2 [(0, .ref (a o)), (1, .int p1)] := hl
  rw [DX10_composerOf] at h
  refine lv_aload_n hx hb dX10_composerOf_0 rfl (lv_at hl 0 rfl) ?_
  refine lv_iload_n hx hb dX10_composerOf_1 rfl (lv_at hl 1 rfl) ?_
  obtain ⟨x1, e2, h⟩ := bd_some h
  refine pcV (As := [.int p1]) (rest := []) (q0 := 0) (qX10_has l D cy a o S p1 x1 e2) ⟨hx, hb, hml, hown, hts⟩ (cwV 1 hts gX10_composerOf_X10_has rfl rfl rfl (by decide +kernel) ⟨Nat.le_of_ble_eq_true rfl, Nat.le_of_ble_eq_true rfl⟩) hG hP rfl rfl rfl hl.1 rfl (Nat.le_of_ble_eq_true rfl) dX10_composerOf_2 ⟨Nat.zero_le _, Nat.zero_le _⟩ ?_
  obtain ⟨j4, hj4, h⟩ := jn_elim h
  have Jj4 : ∀ (x3 : Int32) (ls : Array Slot), j4 x3 = some rs → lv_has ls 2 [] → W p l e (headSpec wsX10_composerOf ({ frames := 1, cells := 0, slots := 0, locals := 21 } : Room)).room s m ([.ref (a o), .int p1] : List Value).toArray below meth c s.heap [] 0 0 (MQ below (vp_Si (fun z => z = rs)) ([.ref (a o), .int p1] : List Value).toArray s 0 0 (fun _ => False)) (F0 m 18 ls [.int x3]) := by
    intro x3 ls h hl
    rw [hj4] at h
    exact W.iret (v := x3) hx hb hr (fun t ht hW => ⟨x3, rfl, some_in h, ht⟩) (fun q hq => nomatch hq) dX10_composerOf_18
  refine lv_if_eq (tgt := 17) hx hb dX10_composerOf_5 (by decide) (fun cc => ?_) (fun cc => ?_)
  · have h := ite_p cc h
    refine lv_iconst (v := (-1 : Int32)) hx hb dX10_composerOf_17 (by decide) ?_
    exact Jj4 (-1 : Int32) ls h (lv_sub hl [] rfl)
  · have h := ite_n cc h
    refine lv_aload_n hx hb dX10_composerOf_8 rfl (lv_at hl 0 rfl) ?_
    refine va_get (D := D) (ci := 10) (v := .ref (a (o + 1))) (C := RX10) (T := TX10) (N := 4) hx hb hts hinX10 hown hK hP 0 rfl rfl 1 (by decide) hf9 (fun _ h9 => h9) rfl dX10_composerOf_9 ?_
    refine lv_iload_n hx hb dX10_composerOf_12 rfl (lv_at hl 1 rfl) ?_
    obtain ⟨g5, h⟩ := gd_some h
    refine r_ald (f := (gX10_composers S)) (n := 30) (v := ((gX10_composers S) ((p1).toNatClampNeg))) hx hb hK hP 1 0 rfl rfl (gIn_in g5) rfl dX10_composerOf_13 ?_
    refine lv_goto (tgt := 18) hx hb dX10_composerOf_14 (by decide) ?_
    exact Jj4 ((gX10_composers S) ((p1).toNatClampNeg)) ls h (lv_sub hl [] rfl)
set_option maxHeartbeats 4000000 in
set_option maxRecDepth 100000 in
theorem qX4_mostOfOneComposer (l : Launch) (D : va_G) (cy : Nat → ClassId) (a : Nat → Nat) (o : Nat) (b3 : Nat → Nat) (z3 : Nat) (S : SX4) (T3 : SX10) (p1 : Int32) (p2 : Int32) (rs : Int32) (h : DX4_mostOfOneComposer S T3 p1 p2 = some rs) : Met l yX4_mostOfOneComposer wsX4_mostOfOneComposer ({ frames := 2, cells := 0, slots := 0, locals := 42 } : Room) (va_Pc [.ref (a o), .int p1, .int p2, .ref (b3 z3)] (fun U => va_P D vwCl ((wX4 cy a o S) ++ (wX10 cy b3 z3 T3)) U.heap ∧ gK D cy U)) (vp_Si (fun z => z = rs)) 0 0 (fun _ => False) := by
  refine Met.ofW (cc := cX4_mostOfOneComposer) (maxL := 8) (ret := (some .int)) (by decide) rfl ?_
  intro p e s m args below meth c s₁ B hml hv
  obtain ⟨rfl, hP, hG⟩ := hv
  have hx := B.exec
  have hb := B.bytes
  have hr := B.returns
  have hts := atoms_spec (ws := wsX4_mostOfOneComposer) B.pre
  have hown : s.vm.findClass RX4 = some m.cls := findClass_of_methodNamed B.named
  have hlocks := B.notSynchronized
  have hK := hG.1
  have hm58 := hts (.methodLink RX4 58 Lib.Math.max.name) (by decide +kernel)
  have hms_max := hts (.static Lib.Math.max.name) (by decide +kernel)
  have hmi := hts (.initialized "java/lang/Math") (by decide +kernel)
  have hmc_max := hts (.code Lib.Math.max.name Lib.Math.max.code 2 (some .int)) (by decide +kernel)
  have hl := lv_entry ([.ref (a o), .int p1, .int p2, .ref (b3 z3)]) (n := 8) (Nat.le_of_ble_eq_true rfl)
  rw [lg_entry_eq]
  generalize (lg_sl ([.ref (a o), .int p1, .int p2, .ref (b3 z3)]) ++ List.replicate (8 - (lg_sl ([.ref (a o), .int p1, .int p2, .ref (b3 z3)])).length) Slot.unset).toArray = ls at hl ⊢
  have hl : lv_has ls 8 [(0, .ref (a o)), (1, .int p1), (2, .int p2), (3, .ref (b3 z3))] := hl
  rw [DX4_mostOfOneComposer] at h
  refine lv_iconst (v := (0 : Int32)) hx hb dX4_mostOfOneComposer_0 (by decide) ?_
  refine lv_istore (lv' := [(4, .int (0 : Int32)), (0, .ref (a o)), (1, .int p1), (2, .int p2), (3, .ref (b3 z3))]) hx hb dX4_mostOfOneComposer_1 hl (by decide) rfl (fun ls hl => ?_)
  refine lv_iconst (v := (0 : Int32)) hx hb dX4_mostOfOneComposer_3 (by decide) ?_
  refine lv_istore (lv' := [(5, .int (0 : Int32)), (4, .int (0 : Int32)), (0, .ref (a o)), (1, .int p1), (2, .int p2), (3, .ref (b3 z3))]) hx hb dX4_mostOfOneComposer_4 hl (by decide) rfl (fun ls hl => ?_)
  have L24 : ∀ (c1_1 : Int32) (c2_2 : Int32) (k3 : Int32 → Option (Int32)) (hk3 : ∀ (v4_4 : Int32) (ls : Array Slot), k3 v4_4 = some rs → lv_has ls 8 [(4, .int v4_4)] → W p l e (headSpec wsX4_mostOfOneComposer ({ frames := 2, cells := 0, slots := 0, locals := 42 } : Room)).room s m ([.ref (a o), .int p1, .int p2, .ref (b3 z3)] : List Value).toArray below meth c s.heap [] 0 0 (MQ below (vp_Si (fun z => z = rs)) ([.ref (a o), .int p1, .int p2, .ref (b3 z3)] : List Value).toArray s 0 0 (fun _ => False)) (F0 m 66 ls [])) (f : Nat) (v4_6 : Int32) (v5_7 : Int32) (ls : Array Slot), DX4_mostOfOneComposer_L6 S T3 c1_1 c2_2 k3 f v4_6 v5_7 = some rs → lv_has ls 8 [(0, .ref (a o)), (1, .int c1_1), (2, .int c2_2), (3, .ref (b3 z3)), (4, .int v4_6), (5, .int v5_7)] → W p l e (headSpec wsX4_mostOfOneComposer ({ frames := 2, cells := 0, slots := 0, locals := 42 } : Room)).room s m ([.ref (a o), .int p1, .int p2, .ref (b3 z3)] : List Value).toArray below meth c s.heap [] 0 0 (MQ below (vp_Si (fun z => z = rs)) ([.ref (a o), .int p1, .int p2, .ref (b3 z3)] : List Value).toArray s 0 0 (fun _ => False)) (F0 m 6 ls []) := by
    intro c1_1 c2_2 k3 hk3 f
    induction f with
    | zero =>
      intro v4_6 v5_7 ls h hl
      rw [DX4_mostOfOneComposer_L6] at h
      cases h
    | succ f ih =>
      intro v4_6 v5_7 ls h hl
      rw [DX4_mostOfOneComposer_L6] at h
      refine lv_iload hx hb dX4_mostOfOneComposer_6 (lv_at hl 5 rfl) ?_
      refine lv_bipush (v := (10 : Int32)) hx hb dX4_mostOfOneComposer_8 (by decide) ?_
      refine lv_icmp_ge (tgt := 66) hx hb dX4_mostOfOneComposer_10 (by decide) (fun cc => ?_) (fun cc => ?_)
      · have h := ite_p cc h
        exact hk3 v4_6 ls h (lv_sub hl [4] rfl)
      · have h := ite_n cc h
        refine lv_iconst (v := (0 : Int32)) hx hb dX4_mostOfOneComposer_13 (by decide) ?_
        refine lv_istore (lv' := [(6, .int (0 : Int32)), (0, .ref (a o)), (1, .int c1_1), (2, .int c2_2), (3, .ref (b3 z3)), (4, .int v4_6), (5, .int v5_7)]) hx hb dX4_mostOfOneComposer_14 hl (by decide) rfl (fun ls hl => ?_)
        refine lv_iconst (v := (0 : Int32)) hx hb dX4_mostOfOneComposer_16 (by decide) ?_
        refine lv_istore (lv' := [(7, .int (0 : Int32)), (6, .int (0 : Int32)), (0, .ref (a o)), (1, .int c1_1), (2, .int c2_2), (3, .ref (b3 z3)), (4, .int v4_6), (5, .int v5_7)]) hx hb dX4_mostOfOneComposer_17 hl (by decide) rfl (fun ls hl => ?_)
        have L23 : ∀ (c1_8 : Int32) (c2_9 : Int32) (c4_10 : Int32) (c5_11 : Int32) (k12 : Int32 → Option (Int32)) (hk12 : ∀ (v6_13 : Int32) (ls : Array Slot), k12 v6_13 = some rs → lv_has ls 8 [(0, .ref (a o)), (1, .int c1_8), (2, .int c2_9), (3, .ref (b3 z3)), (4, .int c4_10), (5, .int c5_11), (6, .int v6_13)] → W p l e (headSpec wsX4_mostOfOneComposer ({ frames := 2, cells := 0, slots := 0, locals := 42 } : Room)).room s m ([.ref (a o), .int p1, .int p2, .ref (b3 z3)] : List Value).toArray below meth c s.heap [] 0 0 (MQ below (vp_Si (fun z => z = rs)) ([.ref (a o), .int p1, .int p2, .ref (b3 z3)] : List Value).toArray s 0 0 (fun _ => False)) (F0 m 51 ls [])) (f : Nat) (v6_15 : Int32) (v7_16 : Int32) (ls : Array Slot), DX4_mostOfOneComposer_L19 S T3 c1_8 c2_9 c4_10 c5_11 k12 f v6_15 v7_16 = some rs → lv_has ls 8 [(0, .ref (a o)), (1, .int c1_8), (2, .int c2_9), (3, .ref (b3 z3)), (4, .int c4_10), (5, .int c5_11), (6, .int v6_15), (7, .int v7_16)] → W p l e (headSpec wsX4_mostOfOneComposer ({ frames := 2, cells := 0, slots := 0, locals := 42 } : Room)).room s m ([.ref (a o), .int p1, .int p2, .ref (b3 z3)] : List Value).toArray below meth c s.heap [] 0 0 (MQ below (vp_Si (fun z => z = rs)) ([.ref (a o), .int p1, .int p2, .ref (b3 z3)] : List Value).toArray s 0 0 (fun _ => False)) (F0 m 19 ls []) := by
          intro c1_8 c2_9 c4_10 c5_11 k12 hk12 f
          induction f with
          | zero =>
            intro v6_15 v7_16 ls h hl
            rw [DX4_mostOfOneComposer_L19] at h
            cases h
          | succ f ih =>
            intro v6_15 v7_16 ls h hl
            rw [DX4_mostOfOneComposer_L19] at h
            refine lv_iload hx hb dX4_mostOfOneComposer_19 (lv_at hl 7 rfl) ?_
            refine lv_iconst (v := (4 : Int32)) hx hb dX4_mostOfOneComposer_21 (by decide) ?_
            refine lv_icmp_ge (tgt := 51) hx hb dX4_mostOfOneComposer_22 (by decide) (fun cc => ?_) (fun cc => ?_)
            · have h := ite_p cc h
              exact hk12 v6_15 ls h (lv_sub hl [0, 1, 2, 3, 4, 5, 6] rfl)
            · have h := ite_n cc h
              refine lv_aload_n hx hb dX4_mostOfOneComposer_25 rfl (lv_at hl 3 rfl) ?_
              refine lv_aload_n hx hb dX4_mostOfOneComposer_26 rfl (lv_at hl 0 rfl) ?_
              refine lv_iload_n hx hb dX4_mostOfOneComposer_27 rfl (lv_at hl 1 rfl) ?_
              refine lv_iload_n hx hb dX4_mostOfOneComposer_28 rfl (lv_at hl 2 rfl) ?_
              refine lv_iload hx hb dX4_mostOfOneComposer_29 (lv_at hl 7 rfl) ?_
              obtain ⟨x17, e18, h⟩ := bd_some h
              refine pcV (As := [.int c1_8, .int c2_9, .int v7_16]) (rest := [.ref (b3 z3)]) (q0 := 0) (qX4_workAt l D cy a o S c1_8 c2_9 v7_16 x17 e18) ⟨hx, hb, hml, hown, hts⟩ (cwV 3 hts gX4_mostOfOneComposer_X4_workAt rfl rfl rfl (by decide +kernel) ⟨Nat.le_of_ble_eq_true rfl, Nat.le_of_ble_eq_true rfl⟩) hG (P_seg (X := ([] : va_W)) (c := (wX4 cy a o S)) (Y := (wX10 cy b3 z3 T3)) hP (by simp only [List.append_assoc, List.nil_append, List.append_nil] <;> rfl)) rfl rfl rfl hl.1 rfl (Nat.le_of_ble_eq_true rfl) dX4_mostOfOneComposer_31 ⟨Nat.zero_le _, Nat.zero_le _⟩ ?_
              obtain ⟨x19, e20, h⟩ := bd_some h
              refine pcV (As := [.int x17]) (rest := []) (q0 := 0) (qX10_composerOf l D cy b3 z3 T3 x17 x19 e20) ⟨hx, hb, hml, hown, hts⟩ (cwV 1 hts gX4_mostOfOneComposer_X10_composerOf rfl rfl rfl (by decide +kernel) ⟨Nat.le_of_ble_eq_true rfl, Nat.le_of_ble_eq_true rfl⟩) hG (P_seg (X := (wX4 cy a o S)) (c := (wX10 cy b3 z3 T3)) (Y := ([] : va_W)) hP (by simp only [List.append_assoc, List.nil_append, List.append_nil] <;> rfl)) rfl rfl rfl hl.1 rfl (Nat.le_of_ble_eq_true rfl) dX4_mostOfOneComposer_34 ⟨Nat.zero_le _, Nat.zero_le _⟩ ?_
              refine lv_iload hx hb dX4_mostOfOneComposer_37 (lv_at hl 5 rfl) ?_
              obtain ⟨j22, hj22, h⟩ := jn_elim h
              have Jj22 : ∀ (v6_21 : Int32) (ls : Array Slot), j22 v6_21 = some rs → lv_has ls 8 [(0, .ref (a o)), (1, .int c1_8), (2, .int c2_9), (3, .ref (b3 z3)), (4, .int c4_10), (5, .int c5_11), (6, .int v6_21), (7, .int v7_16)] → W p l e (headSpec wsX4_mostOfOneComposer ({ frames := 2, cells := 0, slots := 0, locals := 42 } : Room)).room s m ([.ref (a o), .int p1, .int p2, .ref (b3 z3)] : List Value).toArray below meth c s.heap [] 0 0 (MQ below (vp_Si (fun z => z = rs)) ([.ref (a o), .int p1, .int p2, .ref (b3 z3)] : List Value).toArray s 0 0 (fun _ => False)) (F0 m 45 ls []) := by
                intro v6_21 ls h hl
                rw [hj22] at h
                refine lv_iinc (v := (v7_16 + (1 : Int32))) (lv' := [(7, .int (v7_16 + (1 : Int32))), (0, .ref (a o)), (1, .int c1_8), (2, .int c2_9), (3, .ref (b3 z3)), (4, .int c4_10), (5, .int c5_11), (6, .int v6_21)]) hx hb dX4_mostOfOneComposer_45 hl (k := 7) rfl (by rfl) (by decide) rfl (fun ls hl => ?_)
                refine lv_goto (tgt := 19) hx hb dX4_mostOfOneComposer_48 (by decide) ?_
                exact ih v6_21 (v7_16 + (1 : Int32)) ls h (lv_sub hl [1, 2, 3, 4, 5, 6, 7, 0] rfl)
              refine lv_icmp_ne (tgt := 45) hx hb dX4_mostOfOneComposer_39 (by decide) (fun cc => ?_) (fun cc => ?_)
              · have h := ite_n cc h
                exact Jj22 v6_15 ls h (lv_sub hl [0, 1, 2, 3, 4, 5, 6, 7] rfl)
              · have h := ite_p cc h
                refine lv_iinc (v := (v6_15 + (1 : Int32))) (lv' := [(6, .int (v6_15 + (1 : Int32))), (0, .ref (a o)), (1, .int c1_8), (2, .int c2_9), (3, .ref (b3 z3)), (4, .int c4_10), (5, .int c5_11), (7, .int v7_16)]) hx hb dX4_mostOfOneComposer_42 hl (k := 6) rfl (by rfl) (by decide) rfl (fun ls hl => ?_)
                exact Jj22 (v6_15 + (1 : Int32)) ls h (lv_sub hl [1, 2, 3, 4, 5, 6, 0, 7] rfl)
        refine L23 c1_1 c2_2 v4_6 v5_7 _ ?_ fu (0 : Int32) (0 : Int32) ls h (lv_sub hl [2, 3, 4, 5, 6, 7, 1, 0] rfl)
        intro v6_14 ls h hl
        refine lv_iload hx hb dX4_mostOfOneComposer_51 (lv_at hl 4 rfl) ?_
        refine lv_iload hx hb dX4_mostOfOneComposer_53 (lv_at hl 6 rfl) ?_
        refine va_mmax hx hb (hml.trans hl.1.symm) hown hm58 hms_max hmi hmc_max (Nat.le_of_ble_eq_true rfl) (Nat.le_of_ble_eq_true rfl) (Nat.zero_le _) (Nat.zero_le _) dX4_mostOfOneComposer_55 ?_
        refine lv_istore (lv' := [(4, .int (if v4_6 < v6_14 then v6_14 else v4_6)), (0, .ref (a o)), (1, .int c1_1), (2, .int c2_2), (3, .ref (b3 z3)), (5, .int v5_7), (6, .int v6_14)]) hx hb dX4_mostOfOneComposer_58 hl (by decide) rfl (fun ls hl => ?_)
        refine lv_iinc (v := (v5_7 + (1 : Int32))) (lv' := [(5, .int (v5_7 + (1 : Int32))), (4, .int (if v4_6 < v6_14 then v6_14 else v4_6)), (0, .ref (a o)), (1, .int c1_1), (2, .int c2_2), (3, .ref (b3 z3)), (6, .int v6_14)]) hx hb dX4_mostOfOneComposer_60 hl (k := 5) rfl (by rfl) (by decide) rfl (fun ls hl => ?_)
        refine lv_goto (tgt := 6) hx hb dX4_mostOfOneComposer_63 (by decide) ?_
        exact ih (if v4_6 < v6_14 then v6_14 else v4_6) (v5_7 + (1 : Int32)) ls h (lv_sub hl [2, 3, 4, 5, 1, 0] rfl)
  refine L24 p1 p2 _ ?_ fu (0 : Int32) (0 : Int32) ls h (lv_sub hl [2, 3, 4, 5, 1, 0] rfl)
  intro v4_5 ls h hl
  refine lv_iload hx hb dX4_mostOfOneComposer_66 (lv_at hl 0 rfl) ?_
  exact W.iret (v := v4_5) hx hb hr (fun t ht hW => ⟨v4_5, rfl, some_in h, ht⟩) (fun q hq => nomatch hq) dX4_mostOfOneComposer_68
set_option maxHeartbeats 4000000 in
set_option maxRecDepth 100000 in
theorem qX4_contains (l : Launch) (D : va_G) (cy : Nat → ClassId) (a : Nat → Nat) (o : Nat) (S : SX4) (p1 : Int32) (p2 : Int32) (p3 : Int32) (rs : Int32) (h : DX4_contains S p1 p2 p3 = some rs) : Met l yX4_contains wsX4_contains ({ frames := 1, cells := 0, slots := 0, locals := 24 } : Room) (va_Pc [.ref (a o), .int p1, .int p2, .int p3] (fun U => va_P D vwCl (wX4 cy a o S) U.heap ∧ gK D cy U)) (vp_Si (fun z => z = rs)) 0 0 (fun _ => False) := by
  refine Met.ofW (cc := cX4_contains) (maxL := 5) (ret := (some .boolean)) (by decide) rfl ?_
  intro p e s m args below meth c s₁ B hml hv
  obtain ⟨rfl, hP, hG⟩ := hv
  have hx := B.exec
  have hb := B.bytes
  have hr := B.returns
  have hts := atoms_spec (ws := wsX4_contains) B.pre
  have hown : s.vm.findClass RX4 = some m.cls := findClass_of_methodNamed B.named
  have hlocks := B.notSynchronized
  have hK := hG.1
  have hl := lv_entry ([.ref (a o), .int p1, .int p2, .int p3]) (n := 5) (Nat.le_of_ble_eq_true rfl)
  rw [lg_entry_eq]
  generalize (lg_sl ([.ref (a o), .int p1, .int p2, .int p3]) ++ List.replicate (5 - (lg_sl ([.ref (a o), .int p1, .int p2, .int p3])).length) Slot.unset).toArray = ls at hl ⊢
  have hl : lv_has ls 5 [(0, .ref (a o)), (1, .int p1), (2, .int p2), (3, .int p3)] := hl
  rw [DX4_contains] at h
  refine lv_iconst (v := (0 : Int32)) hx hb dX4_contains_0 (by decide) ?_
  refine lv_istore (lv' := [(4, .int (0 : Int32)), (0, .ref (a o)), (1, .int p1), (2, .int p2), (3, .int p3)]) hx hb dX4_contains_1 hl (by decide) rfl (fun ls hl => ?_)
  have L9 : ∀ (c1_1 : Int32) (c2_2 : Int32) (c3_3 : Int32) (k4 : Unit → Option (Int32)) (hk4 : ∀ (ls : Array Slot), k4 () = some rs → lv_has ls 5 [] → W p l e (headSpec wsX4_contains ({ frames := 1, cells := 0, slots := 0, locals := 24 } : Room)).room s m ([.ref (a o), .int p1, .int p2, .int p3] : List Value).toArray below meth c s.heap [] 0 0 (MQ below (vp_Si (fun z => z = rs)) ([.ref (a o), .int p1, .int p2, .int p3] : List Value).toArray s 0 0 (fun _ => False)) (F0 m 21 ls [])) (k5 : Unit → Option (Int32)) (hk5 : ∀ (ls : Array Slot), k5 () = some rs → lv_has ls 5 [] → W p l e (headSpec wsX4_contains ({ frames := 1, cells := 0, slots := 0, locals := 24 } : Room)).room s m ([.ref (a o), .int p1, .int p2, .int p3] : List Value).toArray below meth c s.heap [] 0 0 (MQ below (vp_Si (fun z => z = rs)) ([.ref (a o), .int p1, .int p2, .int p3] : List Value).toArray s 0 0 (fun _ => False)) (F0 m 29 ls [])) (f : Nat) (v4_6 : Int32) (ls : Array Slot), DX4_contains_L3 S c1_1 c2_2 c3_3 k4 k5 f v4_6 = some rs → lv_has ls 5 [(0, .ref (a o)), (1, .int c1_1), (2, .int c2_2), (3, .int c3_3), (4, .int v4_6)] → W p l e (headSpec wsX4_contains ({ frames := 1, cells := 0, slots := 0, locals := 24 } : Room)).room s m ([.ref (a o), .int p1, .int p2, .int p3] : List Value).toArray below meth c s.heap [] 0 0 (MQ below (vp_Si (fun z => z = rs)) ([.ref (a o), .int p1, .int p2, .int p3] : List Value).toArray s 0 0 (fun _ => False)) (F0 m 3 ls []) := by
    intro c1_1 c2_2 c3_3 k4 hk4 k5 hk5 f
    induction f with
    | zero =>
      intro v4_6 ls h hl
      rw [DX4_contains_L3] at h
      cases h
    | succ f ih =>
      intro v4_6 ls h hl
      rw [DX4_contains_L3] at h
      refine lv_iload hx hb dX4_contains_3 (lv_at hl 4 rfl) ?_
      refine lv_iconst (v := (4 : Int32)) hx hb dX4_contains_5 (by decide) ?_
      refine lv_icmp_ge (tgt := 29) hx hb dX4_contains_6 (by decide) (fun cc => ?_) (fun cc => ?_)
      · have h := ite_p cc h
        exact hk5  ls h (lv_sub hl [] rfl)
      · have h := ite_n cc h
        refine lv_aload_n hx hb dX4_contains_9 rfl (lv_at hl 0 rfl) ?_
        refine lv_iload_n hx hb dX4_contains_10 rfl (lv_at hl 1 rfl) ?_
        refine lv_iload_n hx hb dX4_contains_11 rfl (lv_at hl 2 rfl) ?_
        refine lv_iload hx hb dX4_contains_12 (lv_at hl 4 rfl) ?_
        obtain ⟨x7, e8, h⟩ := bd_some h
        refine pcV (As := [.int c1_1, .int c2_2, .int v4_6]) (rest := []) (q0 := 0) (qX4_workAt l D cy a o S c1_1 c2_2 v4_6 x7 e8) ⟨hx, hb, hml, hown, hts⟩ (cwV 3 hts gX4_contains_X4_workAt rfl rfl rfl (by decide +kernel) ⟨Nat.le_of_ble_eq_true rfl, Nat.le_of_ble_eq_true rfl⟩) hG hP rfl rfl rfl hl.1 rfl (Nat.le_of_ble_eq_true rfl) dX4_contains_14 ⟨Nat.zero_le _, Nat.zero_le _⟩ ?_
        refine lv_iload_n hx hb dX4_contains_17 rfl (lv_at hl 3 rfl) ?_
        refine lv_icmp_ne (tgt := 23) hx hb dX4_contains_18 (by decide) (fun cc => ?_) (fun cc => ?_)
        · have h := ite_n cc h
          refine lv_iinc (v := (v4_6 + (1 : Int32))) (lv' := [(4, .int (v4_6 + (1 : Int32))), (0, .ref (a o)), (1, .int c1_1), (2, .int c2_2), (3, .int c3_3)]) hx hb dX4_contains_23 hl (k := 4) rfl (by rfl) (by decide) rfl (fun ls hl => ?_)
          refine lv_goto (tgt := 3) hx hb dX4_contains_26 (by decide) ?_
          exact ih (v4_6 + (1 : Int32)) ls h (lv_sub hl [1, 2, 3, 4, 0] rfl)
        · have h := ite_p cc h
          exact hk4  ls h (lv_sub hl [] rfl)
  refine L9 p1 p2 p3 _ ?_ _ ?_ fu (0 : Int32) ls h (lv_sub hl [1, 2, 3, 4, 0] rfl)
  · intro ls h hl
    refine lv_iconst (v := (1 : Int32)) hx hb dX4_contains_21 (by decide) ?_
    exact W.zret (v := (1 : Int32)) hx hb hr rfl (fun t ht hW => ⟨(1 : Int32), rfl, some_in h, ht⟩) (fun q hq => nomatch hq) dX4_contains_22
  · intro ls h hl
    refine lv_iconst (v := (0 : Int32)) hx hb dX4_contains_29 (by decide) ?_
    exact W.zret (v := (0 : Int32)) hx hb hr rfl (fun t ht hW => ⟨(0 : Int32), rfl, some_in h, ht⟩) (fun q hq => nomatch hq) dX4_contains_30
set_option maxHeartbeats 4000000 in
set_option maxRecDepth 100000 in
theorem qX4_repeatsEarlierRound (l : Launch) (D : va_G) (cy : Nat → ClassId) (a : Nat → Nat) (o : Nat) (S : SX4) (p1 : Int32) (p2 : Int32) (rs : Int32) (h : DX4_repeatsEarlierRound S p1 p2 = some rs) : Met l yX4_repeatsEarlierRound wsX4_repeatsEarlierRound ({ frames := 2, cells := 0, slots := 0, locals := 48 } : Room) (va_Pc [.ref (a o), .int p1, .int p2] (fun U => va_P D vwCl (wX4 cy a o S) U.heap ∧ gK D cy U)) (vp_Si (fun z => z = rs)) 0 0 (fun _ => False) := by
  refine Met.ofW (cc := cX4_repeatsEarlierRound) (maxL := 6) (ret := (some .boolean)) (by decide) rfl ?_
  intro p e s m args below meth c s₁ B hml hv
  obtain ⟨rfl, hP, hG⟩ := hv
  have hx := B.exec
  have hb := B.bytes
  have hr := B.returns
  have hts := atoms_spec (ws := wsX4_repeatsEarlierRound) B.pre
  have hown : s.vm.findClass RX4 = some m.cls := findClass_of_methodNamed B.named
  have hlocks := B.notSynchronized
  have hK := hG.1
  have hl := lv_entry ([.ref (a o), .int p1, .int p2]) (n := 6) (Nat.le_of_ble_eq_true rfl)
  rw [lg_entry_eq]
  generalize (lg_sl ([.ref (a o), .int p1, .int p2]) ++ List.replicate (6 - (lg_sl ([.ref (a o), .int p1, .int p2])).length) Slot.unset).toArray = ls at hl ⊢
  have hl : lv_has ls 6 [(0, .ref (a o)), (1, .int p1), (2, .int p2)] := hl
  rw [DX4_repeatsEarlierRound] at h
  refine lv_iconst (v := (0 : Int32)) hx hb dX4_repeatsEarlierRound_0 (by decide) ?_
  refine lv_istore_n (lv' := [(3, .int (0 : Int32)), (0, .ref (a o)), (1, .int p1), (2, .int p2)]) hx hb dX4_repeatsEarlierRound_1 rfl hl (by decide) rfl (fun ls hl => ?_)
  have L18 : ∀ (c1_1 : Int32) (c2_2 : Int32) (k3 : Unit → Option (Int32)) (hk3 : ∀ (ls : Array Slot), k3 () = some rs → lv_has ls 6 [] → W p l e (headSpec wsX4_repeatsEarlierRound ({ frames := 2, cells := 0, slots := 0, locals := 48 } : Room)).room s m ([.ref (a o), .int p1, .int p2] : List Value).toArray below meth c s.heap [] 0 0 (MQ below (vp_Si (fun z => z = rs)) ([.ref (a o), .int p1, .int p2] : List Value).toArray s 0 0 (fun _ => False)) (F0 m 43 ls [])) (k4 : Unit → Option (Int32)) (hk4 : ∀ (ls : Array Slot), k4 () = some rs → lv_has ls 6 [] → W p l e (headSpec wsX4_repeatsEarlierRound ({ frames := 2, cells := 0, slots := 0, locals := 48 } : Room)).room s m ([.ref (a o), .int p1, .int p2] : List Value).toArray below meth c s.heap [] 0 0 (MQ below (vp_Si (fun z => z = rs)) ([.ref (a o), .int p1, .int p2] : List Value).toArray s 0 0 (fun _ => False)) (F0 m 57 ls [])) (f : Nat) (v3_5 : Int32) (ls : Array Slot), DX4_repeatsEarlierRound_L2 S c1_1 c2_2 k3 k4 f v3_5 = some rs → lv_has ls 6 [(0, .ref (a o)), (1, .int c1_1), (2, .int c2_2), (3, .int v3_5)] → W p l e (headSpec wsX4_repeatsEarlierRound ({ frames := 2, cells := 0, slots := 0, locals := 48 } : Room)).room s m ([.ref (a o), .int p1, .int p2] : List Value).toArray below meth c s.heap [] 0 0 (MQ below (vp_Si (fun z => z = rs)) ([.ref (a o), .int p1, .int p2] : List Value).toArray s 0 0 (fun _ => False)) (F0 m 2 ls []) := by
    intro c1_1 c2_2 k3 hk3 k4 hk4 f
    induction f with
    | zero =>
      intro v3_5 ls h hl
      rw [DX4_repeatsEarlierRound_L2] at h
      cases h
    | succ f ih =>
      intro v3_5 ls h hl
      rw [DX4_repeatsEarlierRound_L2] at h
      refine lv_iload_n hx hb dX4_repeatsEarlierRound_2 rfl (lv_at hl 3 rfl) ?_
      refine lv_iload_n hx hb dX4_repeatsEarlierRound_3 rfl (lv_at hl 2 rfl) ?_
      refine lv_icmp_ge (tgt := 57) hx hb dX4_repeatsEarlierRound_4 (by decide) (fun cc => ?_) (fun cc => ?_)
      · have h := ite_p cc h
        exact hk4  ls h (lv_sub hl [] rfl)
      · have h := ite_n cc h
        refine lv_iconst (v := (0 : Int32)) hx hb dX4_repeatsEarlierRound_7 (by decide) ?_
        refine lv_istore (lv' := [(4, .int (0 : Int32)), (0, .ref (a o)), (1, .int c1_1), (2, .int c2_2), (3, .int v3_5)]) hx hb dX4_repeatsEarlierRound_8 hl (by decide) rfl (fun ls hl => ?_)
        have L17 : ∀ (c1_6 : Int32) (c2_7 : Int32) (c3_8 : Int32) (k9 : Unit → Option (Int32)) (hk9 : ∀ (ls : Array Slot), k9 () = some rs → lv_has ls 6 [] → W p l e (headSpec wsX4_repeatsEarlierRound ({ frames := 2, cells := 0, slots := 0, locals := 48 } : Room)).room s m ([.ref (a o), .int p1, .int p2] : List Value).toArray below meth c s.heap [] 0 0 (MQ below (vp_Si (fun z => z = rs)) ([.ref (a o), .int p1, .int p2] : List Value).toArray s 0 0 (fun _ => False)) (F0 m 43 ls [])) (k10 : Unit → Option (Int32)) (hk10 : ∀ (ls : Array Slot), k10 () = some rs → lv_has ls 6 [(0, .ref (a o)), (1, .int c1_6), (2, .int c2_7), (3, .int c3_8)] → W p l e (headSpec wsX4_repeatsEarlierRound ({ frames := 2, cells := 0, slots := 0, locals := 48 } : Room)).room s m ([.ref (a o), .int p1, .int p2] : List Value).toArray below meth c s.heap [] 0 0 (MQ below (vp_Si (fun z => z = rs)) ([.ref (a o), .int p1, .int p2] : List Value).toArray s 0 0 (fun _ => False)) (F0 m 51 ls [])) (f : Nat) (v4_11 : Int32) (ls : Array Slot), DX4_repeatsEarlierRound_L10 S c1_6 c2_7 c3_8 k9 k10 f v4_11 = some rs → lv_has ls 6 [(0, .ref (a o)), (1, .int c1_6), (2, .int c2_7), (3, .int c3_8), (4, .int v4_11)] → W p l e (headSpec wsX4_repeatsEarlierRound ({ frames := 2, cells := 0, slots := 0, locals := 48 } : Room)).room s m ([.ref (a o), .int p1, .int p2] : List Value).toArray below meth c s.heap [] 0 0 (MQ below (vp_Si (fun z => z = rs)) ([.ref (a o), .int p1, .int p2] : List Value).toArray s 0 0 (fun _ => False)) (F0 m 10 ls []) := by
          intro c1_6 c2_7 c3_8 k9 hk9 k10 hk10 f
          induction f with
          | zero =>
            intro v4_11 ls h hl
            rw [DX4_repeatsEarlierRound_L10] at h
            cases h
          | succ f ih =>
            intro v4_11 ls h hl
            rw [DX4_repeatsEarlierRound_L10] at h
            refine lv_iload hx hb dX4_repeatsEarlierRound_10 (lv_at hl 4 rfl) ?_
            refine lv_iconst (v := (4 : Int32)) hx hb dX4_repeatsEarlierRound_12 (by decide) ?_
            refine lv_icmp_ge (tgt := 51) hx hb dX4_repeatsEarlierRound_13 (by decide) (fun cc => ?_) (fun cc => ?_)
            · have h := ite_p cc h
              exact hk10  ls h (lv_sub hl [0, 1, 2, 3] rfl)
            · have h := ite_n cc h
              refine lv_aload_n hx hb dX4_repeatsEarlierRound_16 rfl (lv_at hl 0 rfl) ?_
              refine lv_iload_n hx hb dX4_repeatsEarlierRound_17 rfl (lv_at hl 1 rfl) ?_
              refine lv_iload_n hx hb dX4_repeatsEarlierRound_18 rfl (lv_at hl 2 rfl) ?_
              refine lv_iload hx hb dX4_repeatsEarlierRound_19 (lv_at hl 4 rfl) ?_
              obtain ⟨x12, e13, h⟩ := bd_some h
              refine pcV (As := [.int c1_6, .int c2_7, .int v4_11]) (rest := []) (q0 := 0) (qX4_workAt l D cy a o S c1_6 c2_7 v4_11 x12 e13) ⟨hx, hb, hml, hown, hts⟩ (cwV 3 hts gX4_repeatsEarlierRound_X4_workAt rfl rfl rfl (by decide +kernel) ⟨Nat.le_of_ble_eq_true rfl, Nat.le_of_ble_eq_true rfl⟩) hG hP rfl rfl rfl hl.1 rfl (Nat.le_of_ble_eq_true rfl) dX4_repeatsEarlierRound_21 ⟨Nat.zero_le _, Nat.zero_le _⟩ ?_
              refine lv_istore (lv' := [(5, .int x12), (0, .ref (a o)), (1, .int c1_6), (2, .int c2_7), (3, .int c3_8), (4, .int v4_11)]) hx hb dX4_repeatsEarlierRound_24 hl (by decide) rfl (fun ls hl => ?_)
              refine lv_iload hx hb dX4_repeatsEarlierRound_26 (lv_at hl 0 rfl) ?_
              refine lv_iconst (v := (-1 : Int32)) hx hb dX4_repeatsEarlierRound_28 (by decide) ?_
              obtain ⟨j14, hj14, h⟩ := jn_elim h
              have Jj14 : ∀ (ls : Array Slot), j14 () = some rs → lv_has ls 6 [(0, .ref (a o)), (1, .int c1_6), (2, .int c2_7), (3, .int c3_8), (4, .int v4_11)] → W p l e (headSpec wsX4_repeatsEarlierRound ({ frames := 2, cells := 0, slots := 0, locals := 48 } : Room)).room s m ([.ref (a o), .int p1, .int p2] : List Value).toArray below meth c s.heap [] 0 0 (MQ below (vp_Si (fun z => z = rs)) ([.ref (a o), .int p1, .int p2] : List Value).toArray s 0 0 (fun _ => False)) (F0 m 45 ls []) := by
                intro ls h hl
                rw [hj14] at h
                refine lv_iinc (v := (v4_11 + (1 : Int32))) (lv' := [(4, .int (v4_11 + (1 : Int32))), (0, .ref (a o)), (1, .int c1_6), (2, .int c2_7), (3, .int c3_8)]) hx hb dX4_repeatsEarlierRound_45 hl (k := 4) rfl (by rfl) (by decide) rfl (fun ls hl => ?_)
                refine lv_goto (tgt := 10) hx hb dX4_repeatsEarlierRound_48 (by decide) ?_
                exact ih (v4_11 + (1 : Int32)) ls h (lv_sub hl [1, 2, 3, 4, 0] rfl)
              refine lv_icmp_eq (tgt := 45) hx hb dX4_repeatsEarlierRound_29 (by decide) (fun cc => ?_) (fun cc => ?_)
              · have h := ite_p cc h
                exact Jj14  ls h (lv_sub hl [1, 2, 3, 4, 5] rfl)
              · have h := ite_n cc h
                refine lv_aload_n hx hb dX4_repeatsEarlierRound_32 rfl (lv_at hl 1 rfl) ?_
                refine lv_iload_n hx hb dX4_repeatsEarlierRound_33 rfl (lv_at hl 2 rfl) ?_
                refine lv_iload_n hx hb dX4_repeatsEarlierRound_34 rfl (lv_at hl 4 rfl) ?_
                refine lv_iload hx hb dX4_repeatsEarlierRound_35 (lv_at hl 0 rfl) ?_
                obtain ⟨x15, e16, h⟩ := bd_some h
                refine pcV (As := [.int c1_6, .int c3_8, .int x12]) (rest := []) (q0 := 0) (qX4_contains l D cy a o S c1_6 c3_8 x12 x15 e16) ⟨hx, hb, hml, hown, hts⟩ (cwV 3 hts gX4_repeatsEarlierRound_X4_contains rfl rfl rfl (by decide +kernel) ⟨Nat.le_of_ble_eq_true rfl, Nat.le_of_ble_eq_true rfl⟩) hG hP rfl rfl rfl hl.1 rfl (Nat.le_of_ble_eq_true rfl) dX4_repeatsEarlierRound_37 ⟨Nat.zero_le _, Nat.zero_le _⟩ ?_
                refine lv_if_eq (tgt := 45) hx hb dX4_repeatsEarlierRound_40 (by decide) (fun cc => ?_) (fun cc => ?_)
                · have h := ite_p cc h
                  exact Jj14  ls h (lv_sub hl [1, 2, 3, 4, 5] rfl)
                · have h := ite_n cc h
                  exact hk9  ls h (lv_sub hl [] rfl)
        refine L17 c1_1 c2_2 v3_5 _ (fun ls h => hk3 ls h) _ ?_ fu (0 : Int32) ls h (lv_sub hl [1, 2, 3, 4, 0] rfl)
        intro ls h hl
        refine lv_iinc (v := (v3_5 + (1 : Int32))) (lv' := [(3, .int (v3_5 + (1 : Int32))), (0, .ref (a o)), (1, .int c1_1), (2, .int c2_2)]) hx hb dX4_repeatsEarlierRound_51 hl (k := 3) rfl (by rfl) (by decide) rfl (fun ls hl => ?_)
        refine lv_goto (tgt := 2) hx hb dX4_repeatsEarlierRound_54 (by decide) ?_
        exact ih (v3_5 + (1 : Int32)) ls h (lv_sub hl [1, 2, 3, 0] rfl)
  refine L18 p1 p2 _ ?_ _ ?_ fu (0 : Int32) ls h (lv_sub hl [1, 2, 3, 0] rfl)
  · intro ls h hl
    refine lv_iconst (v := (1 : Int32)) hx hb dX4_repeatsEarlierRound_43 (by decide) ?_
    exact W.zret (v := (1 : Int32)) hx hb hr rfl (fun t ht hW => ⟨(1 : Int32), rfl, some_in h, ht⟩) (fun q hq => nomatch hq) dX4_repeatsEarlierRound_44
  · intro ls h hl
    refine lv_iconst (v := (0 : Int32)) hx hb dX4_repeatsEarlierRound_57 (by decide) ?_
    exact W.zret (v := (0 : Int32)) hx hb hr rfl (fun t ht hW => ⟨(0 : Int32), rfl, some_in h, ht⟩) (fun q hq => nomatch hq) dX4_repeatsEarlierRound_58
set_option maxHeartbeats 4000000 in
set_option maxRecDepth 100000 in
theorem qX4_flawOf (l : Launch) (D : va_G) (cy : Nat → ClassId) (a : Nat → Nat) (o : Nat) (b3 : Nat → Nat) (z3 : Nat) (b4 : Nat → Nat) (z4 : Nat) (S : SX4) (T3 : Nat → Nat → Int32) (T4 : SX10) (p1 : Int32) (p2 : Int32) (rs : Int32) (h : DX4_flawOf S T3 T4 p1 p2 = some rs) : Met l yX4_flawOf wsX4_flawOf ({ frames := 3, cells := 0, slots := 0, locals := 73 } : Room) (va_Pc [.ref (a o), .int p1, .int p2, .ref (b3 z3), .ref (b4 z4)] (fun U => va_P D vwCl ((wX4 cy a o S) ++ (rowsW (cy 2) (cy 0) b3 z3 4 6 T3) ++ (wX10 cy b4 z4 T4)) U.heap ∧ gK D cy U)) (vp_Si (fun z => z = rs)) 0 0 (fun _ => False) := by
  refine Met.ofW (cc := cX4_flawOf) (maxL := 7) (ret := (some .int)) (by decide) rfl ?_
  intro p e s m args below meth c s₁ B hml hv
  obtain ⟨rfl, hP, hG⟩ := hv
  have hx := B.exec
  have hb := B.bytes
  have hr := B.returns
  have hts := atoms_spec (ws := wsX4_flawOf) B.pre
  have hown : s.vm.findClass RX4 = some m.cls := findClass_of_methodNamed B.named
  have hlocks := B.notSynchronized
  have hK := hG.1
  have hl := lv_entry ([.ref (a o), .int p1, .int p2, .ref (b3 z3), .ref (b4 z4)]) (n := 7) (Nat.le_of_ble_eq_true rfl)
  rw [lg_entry_eq]
  generalize (lg_sl ([.ref (a o), .int p1, .int p2, .ref (b3 z3), .ref (b4 z4)]) ++ List.replicate (7 - (lg_sl ([.ref (a o), .int p1, .int p2, .ref (b3 z3), .ref (b4 z4)])).length) Slot.unset).toArray = ls at hl ⊢
  have hl : lv_has ls 7 [(0, .ref (a o)), (1, .int p1), (2, .int p2), (3, .ref (b3 z3)), (4, .ref (b4 z4))] := hl
  rw [DX4_flawOf] at h
  refine lv_iload_n hx hb dX4_flawOf_0 rfl (lv_at hl 2 rfl) ?_
  obtain ⟨j1, hj1, h⟩ := jn_elim h
  have Jj1 : ∀ (ls : Array Slot), j1 () = some rs → lv_has ls 7 [] → W p l e (headSpec wsX4_flawOf ({ frames := 3, cells := 0, slots := 0, locals := 73 } : Room)).room s m ([.ref (a o), .int p1, .int p2, .ref (b3 z3), .ref (b4 z4)] : List Value).toArray below meth c s.heap [] 0 0 (MQ below (vp_Si (fun z => z = rs)) ([.ref (a o), .int p1, .int p2, .ref (b3 z3), .ref (b4 z4)] : List Value).toArray s 0 0 (fun _ => False)) (F0 m 19 ls []) := by
    intro ls h hl
    rw [hj1] at h
    refine lv_iconst (v := (1 : Int32)) hx hb dX4_flawOf_19 (by decide) ?_
    exact W.iret (v := (1 : Int32)) hx hb hr (fun t ht hW => ⟨(1 : Int32), rfl, some_in h, ht⟩) (fun q hq => nomatch hq) dX4_flawOf_20
  refine lv_if_lt (tgt := 19) hx hb dX4_flawOf_1 (by decide) (fun cc => ?_) (fun cc => ?_)
  · have h := ite_p cc h
    exact Jj1  ls h (lv_sub hl [] rfl)
  · have h := ite_n cc h
    refine lv_iload_n hx hb dX4_flawOf_4 rfl (lv_at hl 2 rfl) ?_
    refine lv_aload_n hx hb dX4_flawOf_5 rfl (lv_at hl 3 rfl) ?_
    refine va_alen (v := (4 : Int32)) hx hb hK hP 2 2 rfl rfl rfl dX4_flawOf_6 ?_
    refine lv_icmp_ge (tgt := 19) hx hb dX4_flawOf_7 (by decide) (fun cc => ?_) (fun cc => ?_)
    · have h := ite_p cc h
      exact Jj1  ls h (lv_sub hl [] rfl)
    · have h := ite_n cc h
      refine lv_aload_n hx hb dX4_flawOf_10 rfl (lv_at hl 0 rfl) ?_
      refine lv_iload_n hx hb dX4_flawOf_11 rfl (lv_at hl 1 rfl) ?_
      refine lv_iload_n hx hb dX4_flawOf_12 rfl (lv_at hl 2 rfl) ?_
      obtain ⟨x2, e3, h⟩ := bd_some h
      refine pcV (As := [.int p1, .int p2]) (rest := []) (q0 := 0) (qX4_sizeOf l D cy a o S p1 p2 x2 e3) ⟨hx, hb, hml, hown, hts⟩ (cwV 2 hts gX4_flawOf_X4_sizeOf rfl rfl rfl (by decide +kernel) ⟨Nat.le_of_ble_eq_true rfl, Nat.le_of_ble_eq_true rfl⟩) hG (P_seg (X := ([] : va_W)) (c := (wX4 cy a o S)) (Y := ((rowsW (cy 2) (cy 0) b3 z3 4 6 T3) ++ (wX10 cy b4 z4 T4))) hP (by simp only [List.append_assoc, List.nil_append, List.append_nil] <;> rfl)) rfl rfl rfl hl.1 rfl (Nat.le_of_ble_eq_true rfl) dX4_flawOf_13 ⟨Nat.zero_le _, Nat.zero_le _⟩ ?_
      refine lv_if_ne (tgt := 21) hx hb dX4_flawOf_16 (by decide) (fun cc => ?_) (fun cc => ?_)
      · have h := ite_n cc h
        refine lv_aload_n hx hb dX4_flawOf_21 rfl (lv_at hl 3 rfl) ?_
        refine lv_iload_n hx hb dX4_flawOf_22 rfl (lv_at hl 2 rfl) ?_
        obtain ⟨g4, h⟩ := gd_some h
        refine r_aldR (n := 4) (o := z3) (ad := b3) (j := (p2).toNatClampNeg) hx hb hK hP 2 2 rfl rfl (gIn_in g4) rfl dX4_flawOf_23 ?_
        refine lv_astore (lv' := [(5, .ref (b3 (z3 + 1 + ((p2).toNatClampNeg)))), (0, .ref (a o)), (1, .int p1), (2, .int p2), (3, .ref (b3 z3)), (4, .ref (b4 z4))]) hx hb dX4_flawOf_24 hl (by decide) rfl (fun ls hl => ?_)
        refine lv_aload_n hx hb dX4_flawOf_26 rfl (lv_at hl 1 rfl) ?_
        refine lv_iload_n hx hb dX4_flawOf_27 rfl (lv_at hl 2 rfl) ?_
        refine lv_iload_n hx hb dX4_flawOf_28 rfl (lv_at hl 3 rfl) ?_
        refine lv_aload hx hb dX4_flawOf_29 (lv_at hl 5 rfl) ?_
        obtain ⟨x5, e6, h⟩ := bd_some h
        refine pcV (As := [.int p1, .int p2, .ref (b4 z4)]) (rest := []) (q0 := 0) (qX4_minutesOf l D cy a o b4 z4 S T4 p1 p2 x5 e6) ⟨hx, hb, hml, hown, hts⟩ (cwV 3 hts gX4_flawOf_X4_minutesOf rfl rfl rfl (by decide +kernel) ⟨Nat.le_of_ble_eq_true rfl, Nat.le_of_ble_eq_true rfl⟩) hG (va_P.app (P_seg (X := ([] : va_W)) (c := (wX4 cy a o S)) (Y := ((rowsW (cy 2) (cy 0) b3 z3 4 6 T3) ++ (wX10 cy b4 z4 T4))) hP (by simp only [List.append_assoc, List.nil_append, List.append_nil] <;> rfl)) (P_seg (X := ((wX4 cy a o S) ++ (rowsW (cy 2) (cy 0) b3 z3 4 6 T3))) (c := (wX10 cy b4 z4 T4)) (Y := ([] : va_W)) hP (by simp only [List.append_assoc, List.nil_append, List.append_nil] <;> rfl))) rfl rfl rfl hl.1 rfl (Nat.le_of_ble_eq_true rfl) dX4_flawOf_31 ⟨Nat.zero_le _, Nat.zero_le _⟩ ?_
        refine lv_istore (lv' := [(6, .int x5), (5, .ref (b3 (z3 + 1 + ((p2).toNatClampNeg)))), (0, .ref (a o)), (1, .int p1), (2, .int p2), (3, .ref (b3 z3)), (4, .ref (b4 z4))]) hx hb dX4_flawOf_34 hl (by decide) rfl (fun ls hl => ?_)
        refine lv_iload hx hb dX4_flawOf_36 (lv_at hl 0 rfl) ?_
        refine lv_aload hx hb dX4_flawOf_38 (lv_at hl 1 rfl) ?_
        refine lv_iconst (v := (0 : Int32)) hx hb dX4_flawOf_40 (by decide) ?_
        refine r_ald (f := (T3 ((p2).toNatClampNeg))) (n := 6) (v := ((T3 ((p2).toNatClampNeg)) 0)) hx hb hK hP (2 + 1 + ((p2).toNatClampNeg)) 0 (all4 (P := fun j => ((wX4 cy a o S) ++ (rowsW (cy 2) (cy 0) b3 z3 4 6 T3) ++ (wX10 cy b4 z4 T4))[2 + 1 + j]? = some (b3 (z3 + 1 + j), .inl (cy 0, 6, .inl (T3 j)))) rfl rfl rfl rfl _ (gIn_lt g4)) rfl (vp_in_nI (n := 0) (N := 6) (by decide) (by decide)) (congrArg (T3 ((p2).toNatClampNeg)) (nI_clamp (n := 0) (by decide))) dX4_flawOf_41 ?_
        refine lv_icmp_ge (tgt := 47) hx hb dX4_flawOf_42 (by decide) (fun cc => ?_) (fun cc => ?_)
        · have h := ite_p cc h
          refine lv_iload hx hb dX4_flawOf_47 (lv_at hl 0 rfl) ?_
          refine lv_aload hx hb dX4_flawOf_49 (lv_at hl 1 rfl) ?_
          refine lv_iconst (v := (1 : Int32)) hx hb dX4_flawOf_51 (by decide) ?_
          refine r_ald (f := (T3 ((p2).toNatClampNeg))) (n := 6) (v := ((T3 ((p2).toNatClampNeg)) 1)) hx hb hK hP (2 + 1 + ((p2).toNatClampNeg)) 0 (all4 (P := fun j => ((wX4 cy a o S) ++ (rowsW (cy 2) (cy 0) b3 z3 4 6 T3) ++ (wX10 cy b4 z4 T4))[2 + 1 + j]? = some (b3 (z3 + 1 + j), .inl (cy 0, 6, .inl (T3 j)))) rfl rfl rfl rfl _ (gIn_lt g4)) rfl (vp_in_nI (n := 1) (N := 6) (by decide) (by decide)) (congrArg (T3 ((p2).toNatClampNeg)) (nI_clamp (n := 1) (by decide))) dX4_flawOf_52 ?_
          refine lv_icmp_le (tgt := 58) hx hb dX4_flawOf_53 (by decide) (fun cc => ?_) (fun cc => ?_)
          · have h := ite_p cc h
            refine lv_aload hx hb dX4_flawOf_58 (lv_at hl 1 rfl) ?_
            refine lv_iconst (v := (2 : Int32)) hx hb dX4_flawOf_60 (by decide) ?_
            refine r_ald (f := (T3 ((p2).toNatClampNeg))) (n := 6) (v := ((T3 ((p2).toNatClampNeg)) 2)) hx hb hK hP (2 + 1 + ((p2).toNatClampNeg)) 0 (all4 (P := fun j => ((wX4 cy a o S) ++ (rowsW (cy 2) (cy 0) b3 z3 4 6 T3) ++ (wX10 cy b4 z4 T4))[2 + 1 + j]? = some (b3 (z3 + 1 + j), .inl (cy 0, 6, .inl (T3 j)))) rfl rfl rfl rfl _ (gIn_lt g4)) rfl (vp_in_nI (n := 2) (N := 6) (by decide) (by decide)) (congrArg (T3 ((p2).toNatClampNeg)) (nI_clamp (n := 2) (by decide))) dX4_flawOf_61 ?_
            refine lv_aload_n hx hb dX4_flawOf_62 rfl (lv_at hl 2 rfl) ?_
            refine lv_iload_n hx hb dX4_flawOf_63 rfl (lv_at hl 3 rfl) ?_
            refine lv_iload_n hx hb dX4_flawOf_64 rfl (lv_at hl 4 rfl) ?_
            refine lv_aload hx hb dX4_flawOf_65 (lv_at hl 6 rfl) ?_
            obtain ⟨x7, e8, h⟩ := bd_some h
            refine pcV (As := [.int p1, .int p2, .ref (b4 z4)]) (rest := [.int ((T3 ((p2).toNatClampNeg)) 2)]) (q0 := 0) (qX4_erasOf l D cy a o b4 z4 S T4 p1 p2 x7 e8) ⟨hx, hb, hml, hown, hts⟩ (cwV 3 hts gX4_flawOf_X4_erasOf rfl rfl rfl (by decide +kernel) ⟨Nat.le_of_ble_eq_true rfl, Nat.le_of_ble_eq_true rfl⟩) hG (va_P.app (P_seg (X := ([] : va_W)) (c := (wX4 cy a o S)) (Y := ((rowsW (cy 2) (cy 0) b3 z3 4 6 T3) ++ (wX10 cy b4 z4 T4))) hP (by simp only [List.append_assoc, List.nil_append, List.append_nil] <;> rfl)) (P_seg (X := ((wX4 cy a o S) ++ (rowsW (cy 2) (cy 0) b3 z3 4 6 T3))) (c := (wX10 cy b4 z4 T4)) (Y := ([] : va_W)) hP (by simp only [List.append_assoc, List.nil_append, List.append_nil] <;> rfl))) rfl rfl rfl hl.1 rfl (Nat.le_of_ble_eq_true rfl) dX4_flawOf_67 ⟨Nat.zero_le _, Nat.zero_le _⟩ ?_
            refine lv_iconst (v := (-1 : Int32)) hx hb dX4_flawOf_70 (by decide) ?_
            refine lv_ixor hx hb dX4_flawOf_71 ?_
            refine lv_iand hx hb dX4_flawOf_72 ?_
            refine lv_if_eq (tgt := 78) hx hb dX4_flawOf_73 (by decide) (fun cc => ?_) (fun cc => ?_)
            · have h := ite_p cc h
              refine lv_aload_n hx hb dX4_flawOf_78 rfl (lv_at hl 2 rfl) ?_
              refine lv_iload_n hx hb dX4_flawOf_79 rfl (lv_at hl 3 rfl) ?_
              refine lv_iload_n hx hb dX4_flawOf_80 rfl (lv_at hl 4 rfl) ?_
              refine lv_aload hx hb dX4_flawOf_81 (lv_at hl 6 rfl) ?_
              obtain ⟨x9, e10, h⟩ := bd_some h
              refine pcV (As := [.int p1, .int p2, .ref (b4 z4)]) (rest := []) (q0 := 0) (qX4_mostOfOneComposer l D cy a o b4 z4 S T4 p1 p2 x9 e10) ⟨hx, hb, hml, hown, hts⟩ (cwV 3 hts gX4_flawOf_X4_mostOfOneComposer rfl rfl rfl (by decide +kernel) ⟨Nat.le_of_ble_eq_true rfl, Nat.le_of_ble_eq_true rfl⟩) hG (va_P.app (P_seg (X := ([] : va_W)) (c := (wX4 cy a o S)) (Y := ((rowsW (cy 2) (cy 0) b3 z3 4 6 T3) ++ (wX10 cy b4 z4 T4))) hP (by simp only [List.append_assoc, List.nil_append, List.append_nil] <;> rfl)) (P_seg (X := ((wX4 cy a o S) ++ (rowsW (cy 2) (cy 0) b3 z3 4 6 T3))) (c := (wX10 cy b4 z4 T4)) (Y := ([] : va_W)) hP (by simp only [List.append_assoc, List.nil_append, List.append_nil] <;> rfl))) rfl rfl rfl hl.1 rfl (Nat.le_of_ble_eq_true rfl) dX4_flawOf_83 ⟨Nat.zero_le _, Nat.zero_le _⟩ ?_
              refine lv_aload hx hb dX4_flawOf_86 (lv_at hl 1 rfl) ?_
              refine lv_iconst (v := (3 : Int32)) hx hb dX4_flawOf_88 (by decide) ?_
              refine r_ald (f := (T3 ((p2).toNatClampNeg))) (n := 6) (v := ((T3 ((p2).toNatClampNeg)) 3)) hx hb hK hP (2 + 1 + ((p2).toNatClampNeg)) 0 (all4 (P := fun j => ((wX4 cy a o S) ++ (rowsW (cy 2) (cy 0) b3 z3 4 6 T3) ++ (wX10 cy b4 z4 T4))[2 + 1 + j]? = some (b3 (z3 + 1 + j), .inl (cy 0, 6, .inl (T3 j)))) rfl rfl rfl rfl _ (gIn_lt g4)) rfl (vp_in_nI (n := 3) (N := 6) (by decide) (by decide)) (congrArg (T3 ((p2).toNatClampNeg)) (nI_clamp (n := 3) (by decide))) dX4_flawOf_89 ?_
              refine lv_icmp_le (tgt := 95) hx hb dX4_flawOf_90 (by decide) (fun cc => ?_) (fun cc => ?_)
              · have h := ite_p cc h
                refine lv_aload hx hb dX4_flawOf_95 (lv_at hl 1 rfl) ?_
                refine lv_iconst (v := (4 : Int32)) hx hb dX4_flawOf_97 (by decide) ?_
                refine r_ald (f := (T3 ((p2).toNatClampNeg))) (n := 6) (v := ((T3 ((p2).toNatClampNeg)) 4)) hx hb hK hP (2 + 1 + ((p2).toNatClampNeg)) 0 (all4 (P := fun j => ((wX4 cy a o S) ++ (rowsW (cy 2) (cy 0) b3 z3 4 6 T3) ++ (wX10 cy b4 z4 T4))[2 + 1 + j]? = some (b3 (z3 + 1 + j), .inl (cy 0, 6, .inl (T3 j)))) rfl rfl rfl rfl _ (gIn_lt g4)) rfl (vp_in_nI (n := 4) (N := 6) (by decide) (by decide)) (congrArg (T3 ((p2).toNatClampNeg)) (nI_clamp (n := 4) (by decide))) dX4_flawOf_98 ?_
                refine lv_iconst (v := (1 : Int32)) hx hb dX4_flawOf_99 (by decide) ?_
                obtain ⟨j12, hj12, h⟩ := jn_elim h
                have Jj12 : ∀ (x11 : Int32) (ls : Array Slot), j12 x11 = some rs → lv_has ls 7 [] → W p l e (headSpec wsX4_flawOf ({ frames := 3, cells := 0, slots := 0, locals := 73 } : Room)).room s m ([.ref (a o), .int p1, .int p2, .ref (b3 z3), .ref (b4 z4)] : List Value).toArray below meth c s.heap [] 0 0 (MQ below (vp_Si (fun z => z = rs)) ([.ref (a o), .int p1, .int p2, .ref (b3 z3), .ref (b4 z4)] : List Value).toArray s 0 0 (fun _ => False)) (F0 m 118 ls [.int x11]) := by
                  intro x11 ls h hl
                  rw [hj12] at h
                  exact W.iret (v := x11) hx hb hr (fun t ht hW => ⟨x11, rfl, some_in h, ht⟩) (fun q hq => nomatch hq) dX4_flawOf_118
                obtain ⟨j13, hj13, h⟩ := jn_elim h
                have Jj13 : ∀ (ls : Array Slot), j13 () = some rs → lv_has ls 7 [] → W p l e (headSpec wsX4_flawOf ({ frames := 3, cells := 0, slots := 0, locals := 73 } : Room)).room s m ([.ref (a o), .int p1, .int p2, .ref (b3 z3), .ref (b4 z4)] : List Value).toArray below meth c s.heap [] 0 0 (MQ below (vp_Si (fun z => z = rs)) ([.ref (a o), .int p1, .int p2, .ref (b3 z3), .ref (b4 z4)] : List Value).toArray s 0 0 (fun _ => False)) (F0 m 117 ls []) := by
                  intro ls h hl
                  rw [hj13] at h
                  refine lv_iconst (v := (0 : Int32)) hx hb dX4_flawOf_117 (by decide) ?_
                  exact Jj12 (0 : Int32) ls h (lv_sub hl [] rfl)
                refine lv_icmp_ne (tgt := 117) hx hb dX4_flawOf_100 (by decide) (fun cc => ?_) (fun cc => ?_)
                · have h := ite_n cc h
                  exact Jj13  ls h (lv_sub hl [] rfl)
                · have h := ite_p cc h
                  refine lv_aload_n hx hb dX4_flawOf_103 rfl (lv_at hl 2 rfl) ?_
                  refine lv_iload_n hx hb dX4_flawOf_104 rfl (lv_at hl 3 rfl) ?_
                  refine lv_iload_n hx hb dX4_flawOf_105 rfl (lv_at hl 4 rfl) ?_
                  obtain ⟨x14, e15, h⟩ := bd_some h
                  refine pcV (As := [.int p1, .int p2]) (rest := []) (q0 := 0) (qX4_repeatsEarlierRound l D cy a o S p1 p2 x14 e15) ⟨hx, hb, hml, hown, hts⟩ (cwV 2 hts gX4_flawOf_X4_repeatsEarlierRound rfl rfl rfl (by decide +kernel) ⟨Nat.le_of_ble_eq_true rfl, Nat.le_of_ble_eq_true rfl⟩) hG (P_seg (X := ([] : va_W)) (c := (wX4 cy a o S)) (Y := ((rowsW (cy 2) (cy 0) b3 z3 4 6 T3) ++ (wX10 cy b4 z4 T4))) hP (by simp only [List.append_assoc, List.nil_append, List.append_nil] <;> rfl)) rfl rfl rfl hl.1 rfl (Nat.le_of_ble_eq_true rfl) dX4_flawOf_106 ⟨Nat.zero_le _, Nat.zero_le _⟩ ?_
                  refine lv_if_eq (tgt := 117) hx hb dX4_flawOf_109 (by decide) (fun cc => ?_) (fun cc => ?_)
                  · have h := ite_p cc h
                    exact Jj13  ls h (lv_sub hl [] rfl)
                  · have h := ite_n cc h
                    refine lv_bipush (v := (6 : Int32)) hx hb dX4_flawOf_112 (by decide) ?_
                    refine lv_goto (tgt := 118) hx hb dX4_flawOf_114 (by decide) ?_
                    exact Jj12 (6 : Int32) ls h (lv_sub hl [] rfl)
              · have h := ite_n cc h
                refine lv_iconst (v := (5 : Int32)) hx hb dX4_flawOf_93 (by decide) ?_
                exact W.iret (v := (5 : Int32)) hx hb hr (fun t ht hW => ⟨(5 : Int32), rfl, some_in h, ht⟩) (fun q hq => nomatch hq) dX4_flawOf_94
            · have h := ite_n cc h
              refine lv_iconst (v := (4 : Int32)) hx hb dX4_flawOf_76 (by decide) ?_
              exact W.iret (v := (4 : Int32)) hx hb hr (fun t ht hW => ⟨(4 : Int32), rfl, some_in h, ht⟩) (fun q hq => nomatch hq) dX4_flawOf_77
          · have h := ite_n cc h
            refine lv_iconst (v := (3 : Int32)) hx hb dX4_flawOf_56 (by decide) ?_
            exact W.iret (v := (3 : Int32)) hx hb hr (fun t ht hW => ⟨(3 : Int32), rfl, some_in h, ht⟩) (fun q hq => nomatch hq) dX4_flawOf_57
        · have h := ite_n cc h
          refine lv_iconst (v := (2 : Int32)) hx hb dX4_flawOf_45 (by decide) ?_
          exact W.iret (v := (2 : Int32)) hx hb hr (fun t ht hW => ⟨(2 : Int32), rfl, some_in h, ht⟩) (fun q hq => nomatch hq) dX4_flawOf_46
      · have h := ite_p cc h
        exact Jj1  ls h (lv_sub hl [] rfl)
