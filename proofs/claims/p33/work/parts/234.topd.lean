set_option maxHeartbeats 4000000 in
set_option maxRecDepth 100000 in
theorem qX11_clearProgram (l : Launch) (hl9 : l.stackTraces = false) (D : va_G) (cy : Nat → ClassId) (tt : Nat → Nat) (a : Nat → Nat) (o : Nat) (S : SX11) (p1 : Int32) (p2 : Int32) (sz : Nat) (rs : Nat ⊕ (Int32 × SX11)) (h : DX11_clearProgram S p1 p2 = some rs) : vx_Met l yX11_clearProgram wsX11_clearProgram ({ frames := 9, cells := cX rs, slots := sX rs, locals := 206 } : Room) (xP D cy tt sz [.ref (a o), .int p1, .int p2] (wX11 cy a o S)) (va_Qi (fun r (u : SX11) => Sum.inr (r, u) = rs) (fun u t => mB D sz (wX11 cy a o S) (wX11 cy a o u) t) (va_A (wX11 cy a o S) sz)) (xC D sz (wX11 cy a o S) rs) (cX rs) (sX rs) (va_A (wX11 cy a o S) sz) := by
  refine vx_ofW (cc := cX11_clearProgram) (maxL := 4) (ret := (some .int)) (by decide) rfl ?_
  intro p e s m args below meth c s₁ B hml htab hv
  obtain ⟨rfl, hsz, hP, hG, hD0, hX⟩ := hv
  have hx := B.exec
  have hb := B.bytes
  have hr := B.returns
  have hts := atoms_spec (ws := wsX11_clearProgram) B.pre
  have hown : s.vm.findClass RX11 = some m.cls := findClass_of_methodNamed B.named
  have hlocks := B.notSynchronized
  have hK := hG.1
  subst hsz
  have hD := hD0.self (sz := s.heap.size)
  have hA : ∀ q : Nat, s.heap.size ≤ q → (va_A (wX11 cy a o S) s.heap.size) q := fun q h => Or.inr h
  have hS : va_S (va_A (wX11 cy a o S) s.heap.size) s.heap s.heap [] := va_S.rf
  have hinX11 := (by decide +kernel : ∀ w ∈ wsX110, w ∈ wsX11_clearProgram)
  have hf19 := hts (.fieldLink RX11 19 "PianoRounds" "records" "LPianoRounds$Records;") (by decide +kernel)
  have hf10 := hts (.fieldLink RX11 10 "PianoRounds" "now" "LPianoRounds$Competition;") (by decide +kernel)
  have hinX0 := (by decide +kernel : ∀ w ∈ wsX00, w ∈ wsX11_clearProgram)
  have hf135 := va_Nw.use (A := ([.ref (a o), .int p1, .int p2] : List Value).toArray) (U := s) (w := .fieldLinkNest "PianoRounds" 135 "PianoRounds$Competition" "programs" "LPianoRounds$Programs;" "PianoRounds") rfl (hG.2.1 _ (by decide +kernel))
  have hl := lv_entry ([.ref (a o), .int p1, .int p2]) (n := 4) (Nat.le_of_ble_eq_true rfl)
  rw [lg_entry_eq]
  generalize (lg_sl ([.ref (a o), .int p1, .int p2]) ++ List.replicate (4 - (lg_sl ([.ref (a o), .int p1, .int p2])).length) Slot.unset).toArray = ls at hl ⊢
  have hl : lv_has ls 4 [(0, .ref (a o)), (1, .int p1), (2, .int p2)] := hl
  rw [DX11_clearProgram] at h
  refine lv_aload_n hx hb dX11_clearProgram_0 rfl (lv_at hl 0 rfl) ?_
  refine lv_iload_n hx hb dX11_clearProgram_1 rfl (lv_at hl 1 rfl) ?_
  refine lv_iload_n hx hb dX11_clearProgram_2 rfl (lv_at hl 2 rfl) ?_
  rcases tx_some h with ⟨k9, e9, h⟩ | ⟨x1, e2, h⟩
  · refine tcT (fun st v t q => by obtain ⟨⟨u, -, hu, -⟩, -⟩ := q; cases hu) hG hX hP hD hS hA (pm1 (X := ([] : va_W)) (c := (wX11n cy a o (gX11_now S))) (Y := ((wX5 cy a (o + 54) (gX11_records S)) ++ (wX8 cy a (o + 268) (gX11_text S)))) (show (wX11 cy a o S) = ([] : va_W) ++ ((wX11n cy a o (gX11_now S)) ++ ((wX5 cy a (o + 54) (gX11_records S)) ++ (wX8 cy a (o + 268) (gX11_text S)))) from by simp only [wX11, wX11n, List.append_assoc, List.nil_append, List.append_nil] <;> rfl)) (fun h1 h2 => vx_runV (As := [.int p1, .int p2]) (rest := []) ⟨hx, hb, hml, hown, hts⟩ (qX11_requireEntrantAndRound l hl9 D cy tt a o (gX11_now S) p1 p2 (s.heap).size (Sum.inl k9) e9) (cwV 2 hts gX11_clearProgram_X11_requireEntrantAndRound rfl rfl rfl (by decide +kernel) ⟨Nat.le_of_ble_eq_true rfl, Nat.le_of_ble_eq_true rfl⟩) ⟨h1, va_recv hK hP (ci := 11) (q0 := 0) rfl rfl, h2⟩ rfl rfl hl.1 rfl (lv_room (Nat.le_of_ble_eq_true rfl)) dX11_clearProgram_3 ⟨(by rw [← h]; exact Nat.le_refl 1), (by rw [← h]; exact Nat.le_refl 6)⟩) (fun ce q9 H locs hP hS hce hcv hcl => ?_)
    exact vx_out (fun x hx9 => (htab x hx9).elim) hlocks hce hcv hcl (fun t ht hvm => xThrow rfl h hP hD hS (by rw [ht]; exact Nat.le_refl _) (fun q _ => by rw [ht])) hS.2.2 (by rw [← h]; exact Nat.le_refl 1) (by rw [← h]; exact Nat.le_refl 6)
  refine tcNv hG hX hP hD hS hA (pm1 (X := ([] : va_W)) (c := (wX11n cy a o (gX11_now S))) (Y := ((wX5 cy a (o + 54) (gX11_records S)) ++ (wX8 cy a (o + 268) (gX11_text S)))) (show (wX11 cy a o S) = ([] : va_W) ++ ((wX11n cy a o (gX11_now S)) ++ ((wX5 cy a (o + 54) (gX11_records S)) ++ (wX8 cy a (o + 268) (gX11_text S)))) from by simp only [wX11, wX11n, List.append_assoc, List.nil_append, List.append_nil] <;> rfl)) (fun h1 h2 => vx_runV (As := [.int p1, .int p2]) (rest := []) ⟨hx, hb, hml, hown, hts⟩ (qX11_requireEntrantAndRound l hl9 D cy tt a o (gX11_now S) p1 p2 (s.heap).size (Sum.inr x1) e2) (cwV 2 hts gX11_clearProgram_X11_requireEntrantAndRound rfl rfl rfl (by decide +kernel) ⟨Nat.le_of_ble_eq_true rfl, Nat.le_of_ble_eq_true rfl⟩) ⟨h1, va_recv hK hP (ci := 11) (q0 := 0) rfl rfl, h2⟩ rfl rfl hl.1 rfl (lv_room (Nat.le_of_ble_eq_true rfl)) dX11_clearProgram_3 ⟨Nat.zero_le _, Nat.zero_le _⟩) (c2 := 0) (s2 := 0) rfl rfl (fun H locs hP hS => ?_)
  refine lv_aload_n hx hb dX11_clearProgram_6 rfl (lv_at hl 0 rfl) ?_
  refine va_get (D := D) (ci := 11) (v := .ref (a (o + 54))) (C := RX11) (T := TX11) (N := 3) hx hb hts hinX11 hown hK hP 0 rfl rfl 1 (by decide) hf19 (fun _ h9 => h9) rfl dX11_clearProgram_7 ?_
  refine lv_aload_n hx hb dX11_clearProgram_10 rfl (lv_at hl 0 rfl) ?_
  refine va_get (D := D) (ci := 11) (v := .ref (a (o + 1))) (C := RX11) (T := TX11) (N := 3) hx hb hts hinX11 hown hK hP 0 rfl rfl 0 (by decide) hf10 (fun _ h9 => h9) rfl dX11_clearProgram_11 ?_
  obtain ⟨x3, e4, h⟩ := bd_some h
  refine smVv (As := [.ref (a (o + 1))]) (rest := []) (ws' := (wX11 cy a o (uX11_records S x3))) (q0 := 0) (qX5_keep l D cy a (o + 54) a (o + 1) (gX11_records S) (gX11_now S)  (H).size x3 e4) ⟨hx, hb, hml, hown, hts⟩ (cwV 1 hts gX11_clearProgram_X5_keep rfl rfl rfl (by decide +kernel) ⟨Nat.le_of_ble_eq_true rfl, Nat.le_of_ble_eq_true rfl⟩) hG hP hD hS hA (pm2r (X := (hX11 a o S)) (c1 := (wX5 cy a (o + 54) (gX11_records S))) (Y := ([] : va_W)) (c2 := (wX0 cy a (o + 1) (gX11_now S))) (Z := (wX8 cy a (o + 268) (gX11_text S))) (show (wX11 cy a o S) = (hX11 a o S) ++ ((wX0 cy a (o + 1) (gX11_now S)) ++ (([] : va_W) ++ ((wX5 cy a (o + 54) (gX11_records S)) ++ (wX8 cy a (o + 268) (gX11_text S))))) from by simp only [wX11, List.append_assoc, List.nil_append, List.append_nil] <;> rfl)) (pm2r (X := (hX11 a o S)) (c1 := (wX5 cy a (o + 54) x3)) (Y := ([] : va_W)) (c2 := (wX0 cy a (o + 1) (gX11_now S))) (Z := (wX8 cy a (o + 268) (gX11_text S))) (show (wX11 cy a o (uX11_records S x3)) = (hX11 a o S) ++ ((wX0 cy a (o + 1) (gX11_now S)) ++ (([] : va_W) ++ ((wX5 cy a (o + 54) x3) ++ (wX8 cy a (o + 268) (gX11_text S))))) from by simp only [wX11, List.append_assoc, List.nil_append, List.append_nil] <;> rfl)) rfl rfl rfl hl.1 rfl (Nat.le_of_ble_eq_true rfl) dX11_clearProgram_14 ⟨Nat.zero_le _, Nat.zero_le _⟩ (fun H locs hP hD hS => ?_)
  obtain ⟨S5, eS6, h⟩ := lt_elim h
  have hP : va_P D vwCl (wX11 cy a o S5) H := by rw [eS6]; exact hP
  have hD : va_D (va_A (wX11 cy a o S) s.heap.size) (wX11 cy a o S5) := by rw [eS6]; exact hD
  refine lv_aload_n hx hb dX11_clearProgram_17 rfl (lv_at hl 0 rfl) ?_
  refine va_get (D := D) (ci := 11) (v := .ref (a (o + 1))) (C := RX11) (T := TX11) (N := 3) hx hb hts hinX11 hown hK hP 0 rfl rfl 0 (by decide) hf10 (fun _ h9 => h9) rfl dX11_clearProgram_18 ?_
  refine va_getN (D := D) (ci := 0) (v := .ref (a (o + 1 + 12))) (C := RX0) (T := TX0) (N := 14) hx hb hts hinX0 hown hK hP 1 rfl rfl 7 (by decide) hf135 (fun _ h9 => h9) rfl dX11_clearProgram_21 ?_
  refine lv_iload_n hx hb dX11_clearProgram_24 rfl (lv_at hl 1 rfl) ?_
  refine lv_iload_n hx hb dX11_clearProgram_25 rfl (lv_at hl 2 rfl) ?_
  obtain ⟨x7, e8, h⟩ := bd_some h
  refine pcV (As := [.int p1, .int p2]) (rest := []) (q0 := 0) (qX4_sizeOf l D cy a (o + 1 + 12) (gX0_programs (gX11_now S5)) p1 p2 x7 e8) ⟨hx, hb, hml, hown, hts⟩ (cwV 2 hts gX11_clearProgram_X4_sizeOf rfl rfl rfl (by decide +kernel) ⟨Nat.le_of_ble_eq_true rfl, Nat.le_of_ble_eq_true rfl⟩) hG (P_seg (X := ((hX11 a o S5) ++ ((hX0 a (o + 1) (gX11_now S5)) ++ ((wX10 cy a (o + 1 + 1) (gX0_works (gX11_now S5))) ++ ((wX2 cy a (o + 1 + 5) (gX0_entrants (gX11_now S5))) ++ (rowsW (cy 2) (cy 0) a (o + 1 + 7) 4 6 (gX0_rules (gX11_now S5)))))))) (c := (wX4 cy a (o + 1 + 12) (gX0_programs (gX11_now S5)))) (Y := ((wX3 cy a (o + 1 + 14) (gX0_jury (gX11_now S5))) ++ ((wX7 cy a (o + 1 + 23) (gX0_stage (gX11_now S5))) ++ ((wX6 cy a (o + 1 + 26) (gX0_sheet (gX11_now S5))) ++ ((wX9 cy a (o + 1 + 35) (gX0_tie (gX11_now S5))) ++ ((rowsW (cy 2) (cy 0) a (o + 1 + 46) 4 12 (gX0_closedScores (gX11_now S5))) ++ ((wX1 cy a (o + 1 + 51) (gX0_cut (gX11_now S5))) ++ ((wX5 cy a (o + 54) (gX11_records S5)) ++ (wX8 cy a (o + 268) (gX11_text S5)))))))))) hP (by simp only [wX0, wX11, List.append_assoc, List.nil_append, List.append_nil] <;> rfl)) rfl rfl rfl hl.1 rfl (Nat.le_of_ble_eq_true rfl) dX11_clearProgram_26 ⟨Nat.zero_le _, Nat.zero_le _⟩ ?_
  refine lv_istore_n (lv' := [(3, .int x7), (0, .ref (a o)), (1, .int p1), (2, .int p2)]) hx hb dX11_clearProgram_29 rfl hl (by decide) rfl (fun ls hl => ?_)
  refine lv_aload_n hx hb dX11_clearProgram_30 rfl (lv_at hl 1 rfl) ?_
  refine va_get (D := D) (ci := 11) (v := .ref (a (o + 1))) (C := RX11) (T := TX11) (N := 3) hx hb hts hinX11 hown hK hP 0 rfl rfl 0 (by decide) hf10 (fun _ h9 => h9) rfl dX11_clearProgram_31 ?_
  refine va_getN (D := D) (ci := 0) (v := .ref (a (o + 1 + 12))) (C := RX0) (T := TX0) (N := 14) hx hb hts hinX0 hown hK hP 1 rfl rfl 7 (by decide) hf135 (fun _ h9 => h9) rfl dX11_clearProgram_34 ?_
  refine lv_iload_n hx hb dX11_clearProgram_37 rfl (lv_at hl 2 rfl) ?_
  refine lv_iload_n hx hb dX11_clearProgram_38 rfl (lv_at hl 3 rfl) ?_
  obtain ⟨x9, e10, h⟩ := bd_some h
  refine smVv (As := [.int p1, .int p2]) (rest := []) (ws' := (wX11 cy a o (uX11_now S5 (uX0_programs (gX11_now S5) x9)))) (q0 := 0) (qX4_empty l D cy a (o + 1 + 12) (gX0_programs (gX11_now S5)) p1 p2 (H).size x9 e10) ⟨hx, hb, hml, hown, hts⟩ (cwV 2 hts gX11_clearProgram_X4_empty rfl rfl rfl (by decide +kernel) ⟨Nat.le_of_ble_eq_true rfl, Nat.le_of_ble_eq_true rfl⟩) hG hP hD hS hA (pm1 (X := ((hX11 a o S5) ++ ((hX0 a (o + 1) (gX11_now S5)) ++ ((wX10 cy a (o + 1 + 1) (gX0_works (gX11_now S5))) ++ ((wX2 cy a (o + 1 + 5) (gX0_entrants (gX11_now S5))) ++ (rowsW (cy 2) (cy 0) a (o + 1 + 7) 4 6 (gX0_rules (gX11_now S5)))))))) (c := (wX4 cy a (o + 1 + 12) (gX0_programs (gX11_now S5)))) (Y := ((wX3 cy a (o + 1 + 14) (gX0_jury (gX11_now S5))) ++ ((wX7 cy a (o + 1 + 23) (gX0_stage (gX11_now S5))) ++ ((wX6 cy a (o + 1 + 26) (gX0_sheet (gX11_now S5))) ++ ((wX9 cy a (o + 1 + 35) (gX0_tie (gX11_now S5))) ++ ((rowsW (cy 2) (cy 0) a (o + 1 + 46) 4 12 (gX0_closedScores (gX11_now S5))) ++ ((wX1 cy a (o + 1 + 51) (gX0_cut (gX11_now S5))) ++ ((wX5 cy a (o + 54) (gX11_records S5)) ++ (wX8 cy a (o + 268) (gX11_text S5)))))))))) (show (wX11 cy a o S5) = ((hX11 a o S5) ++ ((hX0 a (o + 1) (gX11_now S5)) ++ ((wX10 cy a (o + 1 + 1) (gX0_works (gX11_now S5))) ++ ((wX2 cy a (o + 1 + 5) (gX0_entrants (gX11_now S5))) ++ (rowsW (cy 2) (cy 0) a (o + 1 + 7) 4 6 (gX0_rules (gX11_now S5))))))) ++ ((wX4 cy a (o + 1 + 12) (gX0_programs (gX11_now S5))) ++ ((wX3 cy a (o + 1 + 14) (gX0_jury (gX11_now S5))) ++ ((wX7 cy a (o + 1 + 23) (gX0_stage (gX11_now S5))) ++ ((wX6 cy a (o + 1 + 26) (gX0_sheet (gX11_now S5))) ++ ((wX9 cy a (o + 1 + 35) (gX0_tie (gX11_now S5))) ++ ((rowsW (cy 2) (cy 0) a (o + 1 + 46) 4 12 (gX0_closedScores (gX11_now S5))) ++ ((wX1 cy a (o + 1 + 51) (gX0_cut (gX11_now S5))) ++ ((wX5 cy a (o + 54) (gX11_records S5)) ++ (wX8 cy a (o + 268) (gX11_text S5)))))))))) from by simp only [wX0, wX11, List.append_assoc, List.nil_append, List.append_nil] <;> rfl)) (pm1 (X := ((hX11 a o S5) ++ ((hX0 a (o + 1) (gX11_now S5)) ++ ((wX10 cy a (o + 1 + 1) (gX0_works (gX11_now S5))) ++ ((wX2 cy a (o + 1 + 5) (gX0_entrants (gX11_now S5))) ++ (rowsW (cy 2) (cy 0) a (o + 1 + 7) 4 6 (gX0_rules (gX11_now S5)))))))) (c := (wX4 cy a (o + 1 + 12) x9)) (Y := ((wX3 cy a (o + 1 + 14) (gX0_jury (gX11_now S5))) ++ ((wX7 cy a (o + 1 + 23) (gX0_stage (gX11_now S5))) ++ ((wX6 cy a (o + 1 + 26) (gX0_sheet (gX11_now S5))) ++ ((wX9 cy a (o + 1 + 35) (gX0_tie (gX11_now S5))) ++ ((rowsW (cy 2) (cy 0) a (o + 1 + 46) 4 12 (gX0_closedScores (gX11_now S5))) ++ ((wX1 cy a (o + 1 + 51) (gX0_cut (gX11_now S5))) ++ ((wX5 cy a (o + 54) (gX11_records S5)) ++ (wX8 cy a (o + 268) (gX11_text S5)))))))))) (show (wX11 cy a o (uX11_now S5 (uX0_programs (gX11_now S5) x9))) = ((hX11 a o S5) ++ ((hX0 a (o + 1) (gX11_now S5)) ++ ((wX10 cy a (o + 1 + 1) (gX0_works (gX11_now S5))) ++ ((wX2 cy a (o + 1 + 5) (gX0_entrants (gX11_now S5))) ++ (rowsW (cy 2) (cy 0) a (o + 1 + 7) 4 6 (gX0_rules (gX11_now S5))))))) ++ ((wX4 cy a (o + 1 + 12) x9) ++ ((wX3 cy a (o + 1 + 14) (gX0_jury (gX11_now S5))) ++ ((wX7 cy a (o + 1 + 23) (gX0_stage (gX11_now S5))) ++ ((wX6 cy a (o + 1 + 26) (gX0_sheet (gX11_now S5))) ++ ((wX9 cy a (o + 1 + 35) (gX0_tie (gX11_now S5))) ++ ((rowsW (cy 2) (cy 0) a (o + 1 + 46) 4 12 (gX0_closedScores (gX11_now S5))) ++ ((wX1 cy a (o + 1 + 51) (gX0_cut (gX11_now S5))) ++ ((wX5 cy a (o + 54) (gX11_records S5)) ++ (wX8 cy a (o + 268) (gX11_text S5)))))))))) from by simp only [wX0, wX11, List.append_assoc, List.nil_append, List.append_nil] <;> rfl)) rfl rfl rfl hl.1 rfl (Nat.le_of_ble_eq_true rfl) dX11_clearProgram_39 ⟨Nat.zero_le _, Nat.zero_le _⟩ (fun H locs hP hD hS => ?_)
  obtain ⟨S11, eS12, h⟩ := lt_elim h
  have hP : va_P D vwCl (wX11 cy a o S11) H := by rw [eS12]; exact hP
  have hD : va_D (va_A (wX11 cy a o S) s.heap.size) (wX11 cy a o S11) := by rw [eS12]; exact hD
  refine lv_iload_n hx hb dX11_clearProgram_42 rfl (lv_at hl 0 rfl) ?_
  refine vx_ret (W.widen (k := cX rs) (n := sX rs) (Nat.zero_le _) (Nat.zero_le _) ?_)
  exact W.iret (v := x7) hx hb hr (fun t ht hW => ⟨⟨x7, S11, rfl, some_in h, by rw [ht]; exact hP, hD⟩, hS.F ht⟩) hS.2.2 dX11_clearProgram_43
set_option maxHeartbeats 4000000 in
set_option maxRecDepth 100000 in
theorem qX11_program (l : Launch) (hl9 : l.stackTraces = false) (D : va_G) (cy : Nat → ClassId) (tt : Nat → Nat) (a : Nat → Nat) (o : Nat) (S : SX11n) (p1 : Int32) (p2 : Int32) (p3 : Int32) (sz : Nat) (rs : Nat ⊕ (Int32)) (h : DX11_program S p1 p2 p3 = some rs) : vx_Met l yX11_program wsX11_program ({ frames := 9, cells := cX rs, slots := sX rs, locals := 163 } : Room) (xP D cy tt sz [.ref (a o), .int p1, .int p2, .int p3] (wX11n cy a o S)) (va_Qi (fun r (_ : Unit) => Sum.inr r = rs) (fun _ t => mB D sz (wX11n cy a o S) (wX11n cy a o S) t) (va_A (wX11n cy a o S) sz)) (xC D sz (wX11n cy a o S) rs) (cX rs) (sX rs) (va_A (wX11n cy a o S) sz) := by
  refine vx_ofW (cc := cX11_program) (maxL := 4) (ret := (some .int)) (by decide) rfl ?_
  intro p e s m args below meth c s₁ B hml htab hv
  obtain ⟨rfl, hsz, hP, hG, hD0, hX⟩ := hv
  have hx := B.exec
  have hb := B.bytes
  have hr := B.returns
  have hts := atoms_spec (ws := wsX11_program) B.pre
  have hown : s.vm.findClass RX11 = some m.cls := findClass_of_methodNamed B.named
  have hlocks := B.notSynchronized
  have hK := hG.1
  subst hsz
  have hD := hD0.self (sz := s.heap.size)
  have hA : ∀ q : Nat, s.heap.size ≤ q → (va_A (wX11n cy a o S) s.heap.size) q := fun q h => Or.inr h
  have hS : va_S (va_A (wX11n cy a o S) s.heap.size) s.heap s.heap [] := va_S.rf
  have hinX11 := (by decide +kernel : ∀ w ∈ wsX110, w ∈ wsX11_program)
  have hf10 := hts (.fieldLink RX11 10 "PianoRounds" "now" "LPianoRounds$Competition;") (by decide +kernel)
  have hinX0 := (by decide +kernel : ∀ w ∈ wsX00, w ∈ wsX11_program)
  have hf135 := va_Nw.use (A := ([.ref (a o), .int p1, .int p2, .int p3] : List Value).toArray) (U := s) (w := .fieldLinkNest "PianoRounds" 135 "PianoRounds$Competition" "programs" "LPianoRounds$Programs;" "PianoRounds") rfl (hG.2.1 _ (by decide +kernel))
  have hl := lv_entry ([.ref (a o), .int p1, .int p2, .int p3]) (n := 4) (Nat.le_of_ble_eq_true rfl)
  rw [lg_entry_eq]
  generalize (lg_sl ([.ref (a o), .int p1, .int p2, .int p3]) ++ List.replicate (4 - (lg_sl ([.ref (a o), .int p1, .int p2, .int p3])).length) Slot.unset).toArray = ls at hl ⊢
  have hl : lv_has ls 4 [(0, .ref (a o)), (1, .int p1), (2, .int p2), (3, .int p3)] := hl
  rw [DX11_program] at h
  refine lv_aload_n hx hb dX11_program_0 rfl (lv_at hl 0 rfl) ?_
  refine lv_iload_n hx hb dX11_program_1 rfl (lv_at hl 1 rfl) ?_
  refine lv_iload_n hx hb dX11_program_2 rfl (lv_at hl 2 rfl) ?_
  rcases tx_some h with ⟨k9, e9, h⟩ | ⟨x1, e2, h⟩
  · refine tcT (fun st v t q => by obtain ⟨⟨u, -, hu, -⟩, -⟩ := q; cases hu) hG hX hP hD hS hA (pm1 (X := ([] : va_W)) (c := (wX11n cy a o S)) (Y := ([] : va_W)) (show (wX11n cy a o S) = ([] : va_W) ++ ((wX11n cy a o S) ++ ([] : va_W)) from by simp only [List.append_assoc, List.nil_append, List.append_nil] <;> rfl)) (fun h1 h2 => vx_runV (As := [.int p1, .int p2]) (rest := []) ⟨hx, hb, hml, hown, hts⟩ (qX11_requireEntrantAndRound l hl9 D cy tt a o S p1 p2 (s.heap).size (Sum.inl k9) e9) (cwV 2 hts gX11_program_X11_requireEntrantAndRound rfl rfl rfl (by decide +kernel) ⟨Nat.le_of_ble_eq_true rfl, Nat.le_of_ble_eq_true rfl⟩) ⟨h1, va_recv hK hP (ci := 11) (q0 := 0) rfl rfl, h2⟩ rfl rfl hl.1 rfl (lv_room (Nat.le_of_ble_eq_true rfl)) dX11_program_3 ⟨(by rw [← h]; exact Nat.le_refl 1), (by rw [← h]; exact Nat.le_refl 6)⟩) (fun ce q9 H locs hP hS hce hcv hcl => ?_)
    exact vx_out (fun x hx9 => (htab x hx9).elim) hlocks hce hcv hcl (fun t ht hvm => xThrow rfl h hP hD hS (by rw [ht]; exact Nat.le_refl _) (fun q _ => by rw [ht])) hS.2.2 (by rw [← h]; exact Nat.le_refl 1) (by rw [← h]; exact Nat.le_refl 6)
  refine tcNv hG hX hP hD hS hA (pm1 (X := ([] : va_W)) (c := (wX11n cy a o S)) (Y := ([] : va_W)) (show (wX11n cy a o S) = ([] : va_W) ++ ((wX11n cy a o S) ++ ([] : va_W)) from by simp only [List.append_assoc, List.nil_append, List.append_nil] <;> rfl)) (fun h1 h2 => vx_runV (As := [.int p1, .int p2]) (rest := []) ⟨hx, hb, hml, hown, hts⟩ (qX11_requireEntrantAndRound l hl9 D cy tt a o S p1 p2 (s.heap).size (Sum.inr x1) e2) (cwV 2 hts gX11_program_X11_requireEntrantAndRound rfl rfl rfl (by decide +kernel) ⟨Nat.le_of_ble_eq_true rfl, Nat.le_of_ble_eq_true rfl⟩) ⟨h1, va_recv hK hP (ci := 11) (q0 := 0) rfl rfl, h2⟩ rfl rfl hl.1 rfl (lv_room (Nat.le_of_ble_eq_true rfl)) dX11_program_3 ⟨Nat.zero_le _, Nat.zero_le _⟩) (c2 := 0) (s2 := 0) rfl rfl (fun H locs hP hS => ?_)
  refine lv_aload_n hx hb dX11_program_6 rfl (lv_at hl 0 rfl) ?_
  refine va_get (D := D) (ci := 11) (v := .ref (a (o + 1))) (C := RX11) (T := TX11) (N := 3) hx hb hts hinX11 hown hK hP 0 rfl rfl 0 (by decide) hf10 (fun _ h9 => h9) rfl dX11_program_7 ?_
  refine va_getN (D := D) (ci := 0) (v := .ref (a (o + 1 + 12))) (C := RX0) (T := TX0) (N := 14) hx hb hts hinX0 hown hK hP 1 rfl rfl 7 (by decide) hf135 (fun _ h9 => h9) rfl dX11_program_10 ?_
  refine lv_iload_n hx hb dX11_program_13 rfl (lv_at hl 1 rfl) ?_
  refine lv_iload_n hx hb dX11_program_14 rfl (lv_at hl 2 rfl) ?_
  refine lv_iload_n hx hb dX11_program_15 rfl (lv_at hl 3 rfl) ?_
  obtain ⟨x3, e4, h⟩ := bd_some h
  refine pcV (As := [.int p1, .int p2, .int p3]) (rest := []) (q0 := 0) (qX4_workAt l D cy a (o + 1 + 12) (gX0_programs (gX11n_now S)) p1 p2 p3 x3 e4) ⟨hx, hb, hml, hown, hts⟩ (cwV 3 hts gX11_program_X4_workAt rfl rfl rfl (by decide +kernel) ⟨Nat.le_of_ble_eq_true rfl, Nat.le_of_ble_eq_true rfl⟩) hG (P_seg (X := ((hX11n a o S) ++ ((hX0 a (o + 1) (gX11n_now S)) ++ ((wX10 cy a (o + 1 + 1) (gX0_works (gX11n_now S))) ++ ((wX2 cy a (o + 1 + 5) (gX0_entrants (gX11n_now S))) ++ (rowsW (cy 2) (cy 0) a (o + 1 + 7) 4 6 (gX0_rules (gX11n_now S)))))))) (c := (wX4 cy a (o + 1 + 12) (gX0_programs (gX11n_now S)))) (Y := ((wX3 cy a (o + 1 + 14) (gX0_jury (gX11n_now S))) ++ ((wX7 cy a (o + 1 + 23) (gX0_stage (gX11n_now S))) ++ ((wX6 cy a (o + 1 + 26) (gX0_sheet (gX11n_now S))) ++ ((wX9 cy a (o + 1 + 35) (gX0_tie (gX11n_now S))) ++ ((rowsW (cy 2) (cy 0) a (o + 1 + 46) 4 12 (gX0_closedScores (gX11n_now S))) ++ (wX1 cy a (o + 1 + 51) (gX0_cut (gX11n_now S))))))))) hP (by simp only [wX0, wX11n, List.append_assoc, List.nil_append, List.append_nil] <;> rfl)) rfl rfl rfl hl.1 rfl (Nat.le_of_ble_eq_true rfl) dX11_program_16 ⟨Nat.zero_le _, Nat.zero_le _⟩ ?_
  refine vx_ret (W.widen (k := cX rs) (n := sX rs) (Nat.zero_le _) (Nat.zero_le _) ?_)
  exact W.iret (v := x3) hx hb hr (fun t ht hW => ⟨⟨x3, (), rfl, some_in h, by rw [ht]; exact hP, hD⟩, hS.F ht⟩) hS.2.2 dX11_program_19
set_option maxHeartbeats 4000000 in
set_option maxRecDepth 100000 in
theorem qX11_flaw (l : Launch) (hl9 : l.stackTraces = false) (D : va_G) (cy : Nat → ClassId) (tt : Nat → Nat) (a : Nat → Nat) (o : Nat) (S : SX11n) (p1 : Int32) (p2 : Int32) (sz : Nat) (rs : Nat ⊕ (Int32)) (h : DX11_flaw S p1 p2 = some rs) : vx_Met l yX11_flaw wsX11_flaw ({ frames := 9, cells := cX rs, slots := sX rs, locals := 163 } : Room) (xP D cy tt sz [.ref (a o), .int p1, .int p2] (wX11n cy a o S)) (va_Qi (fun r (_ : Unit) => Sum.inr r = rs) (fun _ t => mB D sz (wX11n cy a o S) (wX11n cy a o S) t) (va_A (wX11n cy a o S) sz)) (xC D sz (wX11n cy a o S) rs) (cX rs) (sX rs) (va_A (wX11n cy a o S) sz) := by
  refine vx_ofW (cc := cX11_flaw) (maxL := 3) (ret := (some .int)) (by decide) rfl ?_
  intro p e s m args below meth c s₁ B hml htab hv
  obtain ⟨rfl, hsz, hP, hG, hD0, hX⟩ := hv
  have hx := B.exec
  have hb := B.bytes
  have hr := B.returns
  have hts := atoms_spec (ws := wsX11_flaw) B.pre
  have hown : s.vm.findClass RX11 = some m.cls := findClass_of_methodNamed B.named
  have hlocks := B.notSynchronized
  have hK := hG.1
  subst hsz
  have hD := hD0.self (sz := s.heap.size)
  have hA : ∀ q : Nat, s.heap.size ≤ q → (va_A (wX11n cy a o S) s.heap.size) q := fun q h => Or.inr h
  have hS : va_S (va_A (wX11n cy a o S) s.heap.size) s.heap s.heap [] := va_S.rf
  have hinX11 := (by decide +kernel : ∀ w ∈ wsX110, w ∈ wsX11_flaw)
  have hf10 := hts (.fieldLink RX11 10 "PianoRounds" "now" "LPianoRounds$Competition;") (by decide +kernel)
  have hinX0 := (by decide +kernel : ∀ w ∈ wsX00, w ∈ wsX11_flaw)
  have hf135 := va_Nw.use (A := ([.ref (a o), .int p1, .int p2] : List Value).toArray) (U := s) (w := .fieldLinkNest "PianoRounds" 135 "PianoRounds$Competition" "programs" "LPianoRounds$Programs;" "PianoRounds") rfl (hG.2.1 _ (by decide +kernel))
  have hf125 := va_Nw.use (A := ([.ref (a o), .int p1, .int p2] : List Value).toArray) (U := s) (w := .fieldLinkNest "PianoRounds" 125 "PianoRounds$Competition" "rules" "[[I" "PianoRounds") rfl (hG.2.1 _ (by decide +kernel))
  have hf42 := va_Nw.use (A := ([.ref (a o), .int p1, .int p2] : List Value).toArray) (U := s) (w := .fieldLinkNest "PianoRounds" 42 "PianoRounds$Competition" "works" "LPianoRounds$Works;" "PianoRounds") rfl (hG.2.1 _ (by decide +kernel))
  have hl := lv_entry ([.ref (a o), .int p1, .int p2]) (n := 3) (Nat.le_of_ble_eq_true rfl)
  rw [lg_entry_eq]
  generalize (lg_sl ([.ref (a o), .int p1, .int p2]) ++ List.replicate (3 - (lg_sl ([.ref (a o), .int p1, .int p2])).length) Slot.unset).toArray = ls at hl ⊢
  have hl : lv_has ls 3 [(0, .ref (a o)), (1, .int p1), (2, .int p2)] := hl
  rw [DX11_flaw] at h
  refine lv_aload_n hx hb dX11_flaw_0 rfl (lv_at hl 0 rfl) ?_
  refine lv_iload_n hx hb dX11_flaw_1 rfl (lv_at hl 1 rfl) ?_
  refine lv_iload_n hx hb dX11_flaw_2 rfl (lv_at hl 2 rfl) ?_
  rcases tx_some h with ⟨k9, e9, h⟩ | ⟨x1, e2, h⟩
  · refine tcT (fun st v t q => by obtain ⟨⟨u, -, hu, -⟩, -⟩ := q; cases hu) hG hX hP hD hS hA (pm1 (X := ([] : va_W)) (c := (wX11n cy a o S)) (Y := ([] : va_W)) (show (wX11n cy a o S) = ([] : va_W) ++ ((wX11n cy a o S) ++ ([] : va_W)) from by simp only [List.append_assoc, List.nil_append, List.append_nil] <;> rfl)) (fun h1 h2 => vx_runV (As := [.int p1, .int p2]) (rest := []) ⟨hx, hb, hml, hown, hts⟩ (qX11_requireEntrantAndRound l hl9 D cy tt a o S p1 p2 (s.heap).size (Sum.inl k9) e9) (cwV 2 hts gX11_flaw_X11_requireEntrantAndRound rfl rfl rfl (by decide +kernel) ⟨Nat.le_of_ble_eq_true rfl, Nat.le_of_ble_eq_true rfl⟩) ⟨h1, va_recv hK hP (ci := 11) (q0 := 0) rfl rfl, h2⟩ rfl rfl hl.1 rfl (lv_room (Nat.le_of_ble_eq_true rfl)) dX11_flaw_3 ⟨(by rw [← h]; exact Nat.le_refl 1), (by rw [← h]; exact Nat.le_refl 6)⟩) (fun ce q9 H locs hP hS hce hcv hcl => ?_)
    exact vx_out (fun x hx9 => (htab x hx9).elim) hlocks hce hcv hcl (fun t ht hvm => xThrow rfl h hP hD hS (by rw [ht]; exact Nat.le_refl _) (fun q _ => by rw [ht])) hS.2.2 (by rw [← h]; exact Nat.le_refl 1) (by rw [← h]; exact Nat.le_refl 6)
  refine tcNv hG hX hP hD hS hA (pm1 (X := ([] : va_W)) (c := (wX11n cy a o S)) (Y := ([] : va_W)) (show (wX11n cy a o S) = ([] : va_W) ++ ((wX11n cy a o S) ++ ([] : va_W)) from by simp only [List.append_assoc, List.nil_append, List.append_nil] <;> rfl)) (fun h1 h2 => vx_runV (As := [.int p1, .int p2]) (rest := []) ⟨hx, hb, hml, hown, hts⟩ (qX11_requireEntrantAndRound l hl9 D cy tt a o S p1 p2 (s.heap).size (Sum.inr x1) e2) (cwV 2 hts gX11_flaw_X11_requireEntrantAndRound rfl rfl rfl (by decide +kernel) ⟨Nat.le_of_ble_eq_true rfl, Nat.le_of_ble_eq_true rfl⟩) ⟨h1, va_recv hK hP (ci := 11) (q0 := 0) rfl rfl, h2⟩ rfl rfl hl.1 rfl (lv_room (Nat.le_of_ble_eq_true rfl)) dX11_flaw_3 ⟨Nat.zero_le _, Nat.zero_le _⟩) (c2 := 0) (s2 := 0) rfl rfl (fun H locs hP hS => ?_)
  refine lv_aload_n hx hb dX11_flaw_6 rfl (lv_at hl 0 rfl) ?_
  refine va_get (D := D) (ci := 11) (v := .ref (a (o + 1))) (C := RX11) (T := TX11) (N := 3) hx hb hts hinX11 hown hK hP 0 rfl rfl 0 (by decide) hf10 (fun _ h9 => h9) rfl dX11_flaw_7 ?_
  refine va_getN (D := D) (ci := 0) (v := .ref (a (o + 1 + 12))) (C := RX0) (T := TX0) (N := 14) hx hb hts hinX0 hown hK hP 1 rfl rfl 7 (by decide) hf135 (fun _ h9 => h9) rfl dX11_flaw_10 ?_
  refine lv_iload_n hx hb dX11_flaw_13 rfl (lv_at hl 1 rfl) ?_
  refine lv_iload_n hx hb dX11_flaw_14 rfl (lv_at hl 2 rfl) ?_
  refine lv_aload_n hx hb dX11_flaw_15 rfl (lv_at hl 0 rfl) ?_
  refine va_get (D := D) (ci := 11) (v := .ref (a (o + 1))) (C := RX11) (T := TX11) (N := 3) hx hb hts hinX11 hown hK hP 0 rfl rfl 0 (by decide) hf10 (fun _ h9 => h9) rfl dX11_flaw_16 ?_
  refine va_getN (D := D) (ci := 0) (v := .ref (a (o + 1 + 7))) (C := RX0) (T := TX0) (N := 14) hx hb hts hinX0 hown hK hP 1 rfl rfl 6 (by decide) hf125 (fun _ h9 => h9) rfl dX11_flaw_19 ?_
  refine lv_aload_n hx hb dX11_flaw_22 rfl (lv_at hl 0 rfl) ?_
  refine va_get (D := D) (ci := 11) (v := .ref (a (o + 1))) (C := RX11) (T := TX11) (N := 3) hx hb hts hinX11 hown hK hP 0 rfl rfl 0 (by decide) hf10 (fun _ h9 => h9) rfl dX11_flaw_23 ?_
  refine va_getN (D := D) (ci := 0) (v := .ref (a (o + 1 + 1))) (C := RX0) (T := TX0) (N := 14) hx hb hts hinX0 hown hK hP 1 rfl rfl 4 (by decide) hf42 (fun _ h9 => h9) rfl dX11_flaw_26 ?_
  obtain ⟨x3, e4, h⟩ := bd_some h
  refine pcV (As := [.int p1, .int p2, .ref (a (o + 1 + 7)), .ref (a (o + 1 + 1))]) (rest := []) (q0 := 0) (qX4_flawOf l D cy a (o + 1 + 12) a (o + 1 + 7) a (o + 1 + 1) (gX0_programs (gX11n_now S)) (gX0_rules (gX11n_now S)) (gX0_works (gX11n_now S)) p1 p2 x3 e4) ⟨hx, hb, hml, hown, hts⟩ (cwV 4 hts gX11_flaw_X4_flawOf rfl rfl rfl (by decide +kernel) ⟨Nat.le_of_ble_eq_true rfl, Nat.le_of_ble_eq_true rfl⟩) hG (va_P.app (va_P.app (P_seg (X := ((hX11n a o S) ++ ((hX0 a (o + 1) (gX11n_now S)) ++ ((wX10 cy a (o + 1 + 1) (gX0_works (gX11n_now S))) ++ ((wX2 cy a (o + 1 + 5) (gX0_entrants (gX11n_now S))) ++ (rowsW (cy 2) (cy 0) a (o + 1 + 7) 4 6 (gX0_rules (gX11n_now S)))))))) (c := (wX4 cy a (o + 1 + 12) (gX0_programs (gX11n_now S)))) (Y := ((wX3 cy a (o + 1 + 14) (gX0_jury (gX11n_now S))) ++ ((wX7 cy a (o + 1 + 23) (gX0_stage (gX11n_now S))) ++ ((wX6 cy a (o + 1 + 26) (gX0_sheet (gX11n_now S))) ++ ((wX9 cy a (o + 1 + 35) (gX0_tie (gX11n_now S))) ++ ((rowsW (cy 2) (cy 0) a (o + 1 + 46) 4 12 (gX0_closedScores (gX11n_now S))) ++ (wX1 cy a (o + 1 + 51) (gX0_cut (gX11n_now S))))))))) hP (by simp only [wX0, wX11n, List.append_assoc, List.nil_append, List.append_nil] <;> rfl)) (P_seg (X := ((hX11n a o S) ++ ((hX0 a (o + 1) (gX11n_now S)) ++ ((wX10 cy a (o + 1 + 1) (gX0_works (gX11n_now S))) ++ (wX2 cy a (o + 1 + 5) (gX0_entrants (gX11n_now S))))))) (c := (rowsW (cy 2) (cy 0) a (o + 1 + 7) 4 6 (gX0_rules (gX11n_now S)))) (Y := ((wX4 cy a (o + 1 + 12) (gX0_programs (gX11n_now S))) ++ ((wX3 cy a (o + 1 + 14) (gX0_jury (gX11n_now S))) ++ ((wX7 cy a (o + 1 + 23) (gX0_stage (gX11n_now S))) ++ ((wX6 cy a (o + 1 + 26) (gX0_sheet (gX11n_now S))) ++ ((wX9 cy a (o + 1 + 35) (gX0_tie (gX11n_now S))) ++ ((rowsW (cy 2) (cy 0) a (o + 1 + 46) 4 12 (gX0_closedScores (gX11n_now S))) ++ (wX1 cy a (o + 1 + 51) (gX0_cut (gX11n_now S)))))))))) hP (by simp only [wX0, wX11n, List.append_assoc, List.nil_append, List.append_nil] <;> rfl))) (P_seg (X := ((hX11n a o S) ++ (hX0 a (o + 1) (gX11n_now S)))) (c := (wX10 cy a (o + 1 + 1) (gX0_works (gX11n_now S)))) (Y := ((wX2 cy a (o + 1 + 5) (gX0_entrants (gX11n_now S))) ++ ((rowsW (cy 2) (cy 0) a (o + 1 + 7) 4 6 (gX0_rules (gX11n_now S))) ++ ((wX4 cy a (o + 1 + 12) (gX0_programs (gX11n_now S))) ++ ((wX3 cy a (o + 1 + 14) (gX0_jury (gX11n_now S))) ++ ((wX7 cy a (o + 1 + 23) (gX0_stage (gX11n_now S))) ++ ((wX6 cy a (o + 1 + 26) (gX0_sheet (gX11n_now S))) ++ ((wX9 cy a (o + 1 + 35) (gX0_tie (gX11n_now S))) ++ ((rowsW (cy 2) (cy 0) a (o + 1 + 46) 4 12 (gX0_closedScores (gX11n_now S))) ++ (wX1 cy a (o + 1 + 51) (gX0_cut (gX11n_now S)))))))))))) hP (by simp only [wX0, wX11n, List.append_assoc, List.nil_append, List.append_nil] <;> rfl))) rfl rfl rfl hl.1 rfl (Nat.le_of_ble_eq_true rfl) dX11_flaw_29 ⟨Nat.zero_le _, Nat.zero_le _⟩ ?_
  refine vx_ret (W.widen (k := cX rs) (n := sX rs) (Nat.zero_le _) (Nat.zero_le _) ?_)
  exact W.iret (v := x3) hx hb hr (fun t ht hW => ⟨⟨x3, (), rfl, some_in h, by rw [ht]; exact hP, hD⟩, hS.F ht⟩) hS.2.2 dX11_flaw_32
set_option maxHeartbeats 4000000 in
set_option maxRecDepth 100000 in
theorem qX11_begin (l : Launch) (hl9 : l.stackTraces = false) (D : va_G) (cy : Nat → ClassId) (tt : Nat → Nat) (a : Nat → Nat) (o : Nat) (S : SX11) (p1 : Int32) (sz : Nat) (rs : Nat ⊕ (Int32 × SX11)) (h : DX11_begin S p1 = some rs) : vx_Met l yX11_begin wsX11_begin ({ frames := 7, cells := cX rs, slots := sX rs, locals := 206 } : Room) (xP D cy tt sz [.ref (a o), .int p1] (wX11 cy a o S)) (va_Qi (fun r (u : SX11) => Sum.inr (r, u) = rs) (fun u t => mB D sz (wX11 cy a o S) (wX11 cy a o u) t) (va_A (wX11 cy a o S) sz)) (xC D sz (wX11 cy a o S) rs) (cX rs) (sX rs) (va_A (wX11 cy a o S) sz) := by
  refine vx_ofW (cc := cX11_begin) (maxL := 2) (ret := (some .int)) (by decide) rfl ?_
  intro p e s m args below meth c s₁ B hml htab hv
  obtain ⟨rfl, hsz, hP, hG, hD0, hX⟩ := hv
  have hx := B.exec
  have hb := B.bytes
  have hr := B.returns
  have hts := atoms_spec (ws := wsX11_begin) B.pre
  have hown : s.vm.findClass RX11 = some m.cls := findClass_of_methodNamed B.named
  have hlocks := B.notSynchronized
  have hK := hG.1
  subst hsz
  have hD := hD0.self (sz := s.heap.size)
  have hA : ∀ q : Nat, s.heap.size ≤ q → (va_A (wX11 cy a o S) s.heap.size) q := fun q h => Or.inr h
  have hS : va_S (va_A (wX11 cy a o S) s.heap.size) s.heap s.heap [] := va_S.rf
  have hinX11 := (by decide +kernel : ∀ w ∈ wsX110, w ∈ wsX11_begin)
  have hf10 := hts (.fieldLink RX11 10 "PianoRounds" "now" "LPianoRounds$Competition;") (by decide +kernel)
  have hinX0 := (by decide +kernel : ∀ w ∈ wsX00, w ∈ wsX11_begin)
  have hf38 := va_Nw.use (A := ([.ref (a o), .int p1] : List Value).toArray) (U := s) (w := .fieldLinkNest "PianoRounds" 38 "PianoRounds$Competition" "state" "I" "PianoRounds") rfl (hG.2.1 _ (by decide +kernel))
  have hf19 := hts (.fieldLink RX11 19 "PianoRounds" "records" "LPianoRounds$Records;") (by decide +kernel)
  have hf164 := va_Nw.use (A := ([.ref (a o), .int p1] : List Value).toArray) (U := s) (w := .fieldLinkNest "PianoRounds" 164 "PianoRounds$Competition" "stage" "LPianoRounds$Stage;" "PianoRounds") rfl (hG.2.1 _ (by decide +kernel))
  have hinX7 := (by decide +kernel : ∀ w ∈ wsX70, w ∈ wsX11_begin)
  have hf168 := va_Nw.use (A := ([.ref (a o), .int p1] : List Value).toArray) (U := s) (w := .fieldLinkNest "PianoRounds" 168 "PianoRounds$Stage" "seed" "J" "PianoRounds") rfl (hG.2.1 _ (by decide +kernel))
  have hf177 := va_Nw.use (A := ([.ref (a o), .int p1] : List Value).toArray) (U := s) (w := .fieldLinkNest "PianoRounds" 177 "PianoRounds$Stage" "players" "I" "PianoRounds") rfl (hG.2.1 _ (by decide +kernel))
  have hl := lv_entry ([.ref (a o), .int p1]) (n := 2) (Nat.le_of_ble_eq_true rfl)
  rw [lg_entry_eq]
  generalize (lg_sl ([.ref (a o), .int p1]) ++ List.replicate (2 - (lg_sl ([.ref (a o), .int p1])).length) Slot.unset).toArray = ls at hl ⊢
  have hl : lv_has ls 2 [(0, .ref (a o)), (1, .int p1)] := hl
  rw [DX11_begin] at h
  refine lv_iload_n hx hb dX11_begin_0 rfl (lv_at hl 1 rfl) ?_
  obtain ⟨j2, hj2, h⟩ := jn_elim h
  have Jj2 : ∀ (x1 : Int32) (ls : Array Slot), j2 x1 = some rs → lv_has ls 2 [(0, .ref (a o)), (1, .int p1)] → W p l e (headSpec wsX11_begin ({ frames := 7, cells := cX rs, slots := sX rs, locals := 206 } : Room)).room s m ([.ref (a o), .int p1] : List Value).toArray below meth c s.heap [] 0 0 (vx_MQ below (va_Qi (fun r (u : SX11) => Sum.inr (r, u) = rs) (fun u t => mB D s.heap.size (wX11 cy a o S) (wX11 cy a o u) t) (va_A (wX11 cy a o S) s.heap.size)) (xC D s.heap.size (wX11 cy a o S) rs) ([.ref (a o), .int p1] : List Value).toArray s (cX rs) (sX rs) (va_A (wX11 cy a o S) s.heap.size)) (F0 m 9 ls [.int x1]) := by
    intro x1 ls h hl
    rw [hj2] at h
    rcases tx_some h with ⟨k9, e9, h⟩ | ⟨x3, e4, h⟩
    · refine tcT (fun st v t q => by obtain ⟨⟨u, -, hu, -⟩, -⟩ := q; cases hu) hG hX hP hD hS hA (pm0 (wX11 cy a o S)) (fun h1 h2 => vx_runS (As := [.int x1]) (rest := []) ⟨hx, hb, hml, hown, hts⟩ (qX11_requireArgument l hl9 D cy tt  x1 (s.heap).size (Sum.inl k9) e9) (va_cwS 1 hts gX11_begin_X11_requireArgument rfl rfl rfl (by decide +kernel) ⟨Nat.le_of_ble_eq_true rfl, Nat.le_of_ble_eq_true rfl⟩) ⟨h1, h2⟩ rfl rfl hl.1 rfl (lv_room (Nat.le_of_ble_eq_true rfl)) dX11_begin_9 ⟨(by rw [← h]; exact Nat.le_refl 1), (by rw [← h]; exact Nat.le_refl 6)⟩) (fun ce q9 H locs hP hS hce hcv hcl => ?_)
      exact vx_out (fun x hx9 => (htab x hx9).elim) hlocks hce hcv hcl (fun t ht hvm => xThrow rfl h hP hD hS (by rw [ht]; exact Nat.le_refl _) (fun q _ => by rw [ht])) hS.2.2 (by rw [← h]; exact Nat.le_refl 1) (by rw [← h]; exact Nat.le_refl 6)
    refine tcNv hG hX hP hD hS hA (pm0 (wX11 cy a o S)) (fun h1 h2 => vx_runS (As := [.int x1]) (rest := []) ⟨hx, hb, hml, hown, hts⟩ (qX11_requireArgument l hl9 D cy tt  x1 (s.heap).size (Sum.inr x3) e4) (va_cwS 1 hts gX11_begin_X11_requireArgument rfl rfl rfl (by decide +kernel) ⟨Nat.le_of_ble_eq_true rfl, Nat.le_of_ble_eq_true rfl⟩) ⟨h1, h2⟩ rfl rfl hl.1 rfl (lv_room (Nat.le_of_ble_eq_true rfl)) dX11_begin_9 ⟨Nat.zero_le _, Nat.zero_le _⟩) (c2 := 0) (s2 := 0) rfl rfl (fun H locs hP hS => ?_)
    refine lv_aload_n hx hb dX11_begin_12 rfl (lv_at hl 0 rfl) ?_
    refine va_get (D := D) (ci := 11) (v := .ref (a (o + 1))) (C := RX11) (T := TX11) (N := 3) hx hb hts hinX11 hown hK hP 0 rfl rfl 0 (by decide) hf10 (fun _ h9 => h9) rfl dX11_begin_13 ?_
    refine va_getN (D := D) (ci := 0) (v := .int (gX0_state (gX11_now S))) (C := RX0) (T := TX0) (N := 14) hx hb hts hinX0 hown hK hP 1 rfl rfl 0 (by decide) hf38 (fun _ h9 => h9) rfl dX11_begin_16 ?_
    obtain ⟨j6, hj6, h⟩ := jn_elim h
    have Jj6 : ∀ (x5 : Int32) (ls : Array Slot), j6 x5 = some rs → lv_has ls 2 [(0, .ref (a o)), (1, .int p1)] → W p l e (headSpec wsX11_begin ({ frames := 7, cells := cX rs, slots := sX rs, locals := 206 } : Room)).room s m ([.ref (a o), .int p1] : List Value).toArray below meth c H locs 0 0 (vx_MQ below (va_Qi (fun r (u : SX11) => Sum.inr (r, u) = rs) (fun u t => mB D s.heap.size (wX11 cy a o S) (wX11 cy a o u) t) (va_A (wX11 cy a o S) s.heap.size)) (xC D s.heap.size (wX11 cy a o S) rs) ([.ref (a o), .int p1] : List Value).toArray s (cX rs) (sX rs) (va_A (wX11 cy a o S) s.heap.size)) (F0 m 27 ls [.int x5]) := by
      intro x5 ls h hl
      rw [hj6] at h
      rcases tx_some h with ⟨k9, e9, h⟩ | ⟨x7, e8, h⟩
      · refine tcT (fun st v t q => by obtain ⟨⟨u, -, hu, -⟩, -⟩ := q; cases hu) hG hX hP hD hS hA (pm0 (wX11 cy a o S)) (fun h1 h2 => vx_runS (As := [.int x5]) (rest := []) ⟨hx, hb, hml, hown, hts⟩ (qX11_requireState l hl9 D cy tt  x5 (H).size (Sum.inl k9) e9) (va_cwS 1 hts gX11_begin_X11_requireState rfl rfl rfl (by decide +kernel) ⟨Nat.le_of_ble_eq_true rfl, Nat.le_of_ble_eq_true rfl⟩) ⟨h1, h2⟩ rfl rfl hl.1 rfl (lv_room (Nat.le_of_ble_eq_true rfl)) dX11_begin_27 ⟨(by rw [← h]; exact Nat.le_refl 1), (by rw [← h]; exact Nat.le_refl 6)⟩) (fun ce q9 H locs hP hS hce hcv hcl => ?_)
        exact vx_out (fun x hx9 => (htab x hx9).elim) hlocks hce hcv hcl (fun t ht hvm => xThrow rfl h hP hD hS (by rw [ht]; exact Nat.le_refl _) (fun q _ => by rw [ht])) hS.2.2 (by rw [← h]; exact Nat.le_refl 1) (by rw [← h]; exact Nat.le_refl 6)
      refine tcNv hG hX hP hD hS hA (pm0 (wX11 cy a o S)) (fun h1 h2 => vx_runS (As := [.int x5]) (rest := []) ⟨hx, hb, hml, hown, hts⟩ (qX11_requireState l hl9 D cy tt  x5 (H).size (Sum.inr x7) e8) (va_cwS 1 hts gX11_begin_X11_requireState rfl rfl rfl (by decide +kernel) ⟨Nat.le_of_ble_eq_true rfl, Nat.le_of_ble_eq_true rfl⟩) ⟨h1, h2⟩ rfl rfl hl.1 rfl (lv_room (Nat.le_of_ble_eq_true rfl)) dX11_begin_27 ⟨Nat.zero_le _, Nat.zero_le _⟩) (c2 := 0) (s2 := 0) rfl rfl (fun H locs hP hS => ?_)
      refine lv_aload_n hx hb dX11_begin_30 rfl (lv_at hl 0 rfl) ?_
      refine va_get (D := D) (ci := 11) (v := .ref (a (o + 54))) (C := RX11) (T := TX11) (N := 3) hx hb hts hinX11 hown hK hP 0 rfl rfl 1 (by decide) hf19 (fun _ h9 => h9) rfl dX11_begin_31 ?_
      refine lv_aload_n hx hb dX11_begin_34 rfl (lv_at hl 0 rfl) ?_
      refine va_get (D := D) (ci := 11) (v := .ref (a (o + 1))) (C := RX11) (T := TX11) (N := 3) hx hb hts hinX11 hown hK hP 0 rfl rfl 0 (by decide) hf10 (fun _ h9 => h9) rfl dX11_begin_35 ?_
      obtain ⟨x9, e10, h⟩ := bd_some h
      refine smVv (As := [.ref (a (o + 1))]) (rest := []) (ws' := (wX11 cy a o (uX11_records S x9))) (q0 := 0) (qX5_keep l D cy a (o + 54) a (o + 1) (gX11_records S) (gX11_now S)  (H).size x9 e10) ⟨hx, hb, hml, hown, hts⟩ (cwV 1 hts gX11_begin_X5_keep rfl rfl rfl (by decide +kernel) ⟨Nat.le_of_ble_eq_true rfl, Nat.le_of_ble_eq_true rfl⟩) hG hP hD hS hA (pm2r (X := (hX11 a o S)) (c1 := (wX5 cy a (o + 54) (gX11_records S))) (Y := ([] : va_W)) (c2 := (wX0 cy a (o + 1) (gX11_now S))) (Z := (wX8 cy a (o + 268) (gX11_text S))) (show (wX11 cy a o S) = (hX11 a o S) ++ ((wX0 cy a (o + 1) (gX11_now S)) ++ (([] : va_W) ++ ((wX5 cy a (o + 54) (gX11_records S)) ++ (wX8 cy a (o + 268) (gX11_text S))))) from by simp only [wX11, List.append_assoc, List.nil_append, List.append_nil] <;> rfl)) (pm2r (X := (hX11 a o S)) (c1 := (wX5 cy a (o + 54) x9)) (Y := ([] : va_W)) (c2 := (wX0 cy a (o + 1) (gX11_now S))) (Z := (wX8 cy a (o + 268) (gX11_text S))) (show (wX11 cy a o (uX11_records S x9)) = (hX11 a o S) ++ ((wX0 cy a (o + 1) (gX11_now S)) ++ (([] : va_W) ++ ((wX5 cy a (o + 54) x9) ++ (wX8 cy a (o + 268) (gX11_text S))))) from by simp only [wX11, List.append_assoc, List.nil_append, List.append_nil] <;> rfl)) rfl rfl rfl hl.1 rfl (Nat.le_of_ble_eq_true rfl) dX11_begin_38 ⟨Nat.zero_le _, Nat.zero_le _⟩ (fun H locs hP hD hS => ?_)
      obtain ⟨S11, eS12, h⟩ := lt_elim h
      have hP : va_P D vwCl (wX11 cy a o S11) H := by rw [eS12]; exact hP
      have hD : va_D (va_A (wX11 cy a o S) s.heap.size) (wX11 cy a o S11) := by rw [eS12]; exact hD
      refine lv_aload_n hx hb dX11_begin_41 rfl (lv_at hl 0 rfl) ?_
      refine va_get (D := D) (ci := 11) (v := .ref (a (o + 1))) (C := RX11) (T := TX11) (N := 3) hx hb hts hinX11 hown hK hP 0 rfl rfl 0 (by decide) hf10 (fun _ h9 => h9) rfl dX11_begin_42 ?_
      refine va_getN (D := D) (ci := 0) (v := .ref (a (o + 1 + 23))) (C := RX0) (T := TX0) (N := 14) hx hb hts hinX0 hown hK hP 1 rfl rfl 9 (by decide) hf164 (fun _ h9 => h9) rfl dX11_begin_45 ?_
      refine lv_iload_n hx hb dX11_begin_48 rfl (lv_at hl 1 rfl) ?_
      refine lv_i2l (v := (p1).toInt64) hx hb dX11_begin_49 rfl ?_
      refine va_putN (D := D) (ci := 7) (v := .long ((p1).toInt64)) (ty := .long) (C := RX7) (T := TX7) (N := 5) hx hb hts hinX7 tyX7 tyX7_ok nmX7 hown hK hP hD hS 24 rfl rfl 2 (by decide) hf168 (fun _ h9 => h9) rfl (by decide +kernel) rfl rfl (Nat.le_of_ble_eq_true rfl) dX11_begin_50 (fun H locs hP hD hS => ?_)
      have hP : va_P D vwCl (wX11 cy a o (uX11_now S11 (uX0_stage (gX11_now S11) (uX7_seed (gX0_stage (gX11_now S11)) ((p1).toInt64))))) H := hP
      have hD : va_D (va_A (wX11 cy a o S) s.heap.size) (wX11 cy a o (uX11_now S11 (uX0_stage (gX11_now S11) (uX7_seed (gX0_stage (gX11_now S11)) ((p1).toInt64))))) := hD
      obtain ⟨S13, eS14, h⟩ := lt_elim h
      have hP : va_P D vwCl (wX11 cy a o S13) H := by rw [eS14]; exact hP
      have hD : va_D (va_A (wX11 cy a o S) s.heap.size) (wX11 cy a o S13) := by rw [eS14]; exact hD
      refine lv_aload_n hx hb dX11_begin_53 rfl (lv_at hl 0 rfl) ?_
      refine va_get (D := D) (ci := 11) (v := .ref (a (o + 1))) (C := RX11) (T := TX11) (N := 3) hx hb hts hinX11 hown hK hP 0 rfl rfl 0 (by decide) hf10 (fun _ h9 => h9) rfl dX11_begin_54 ?_
      refine lv_iconst (v := (0 : Int32)) hx hb dX11_begin_57 (by decide) ?_
      obtain ⟨x15, e16, h⟩ := bd_some h
      refine smVv (As := [.int (0 : Int32)]) (rest := []) (ws' := (wX11 cy a o (uX11_now S13 x15))) (q0 := 0) (qX0_startRound l D cy a (o + 1) (gX11_now S13) (0 : Int32) (H).size x15 e16) ⟨hx, hb, hml, hown, hts⟩ (cwV 1 hts gX11_begin_X0_startRound rfl rfl rfl (by decide +kernel) ⟨Nat.le_of_ble_eq_true rfl, Nat.le_of_ble_eq_true rfl⟩) hG hP hD hS hA (pm1 (X := (hX11 a o S13)) (c := (wX0 cy a (o + 1) (gX11_now S13))) (Y := ((wX5 cy a (o + 54) (gX11_records S13)) ++ (wX8 cy a (o + 268) (gX11_text S13)))) (show (wX11 cy a o S13) = (hX11 a o S13) ++ ((wX0 cy a (o + 1) (gX11_now S13)) ++ ((wX5 cy a (o + 54) (gX11_records S13)) ++ (wX8 cy a (o + 268) (gX11_text S13)))) from by simp only [wX11, List.append_assoc, List.nil_append, List.append_nil] <;> rfl)) (pm1 (X := (hX11 a o S13)) (c := (wX0 cy a (o + 1) x15)) (Y := ((wX5 cy a (o + 54) (gX11_records S13)) ++ (wX8 cy a (o + 268) (gX11_text S13)))) (show (wX11 cy a o (uX11_now S13 x15)) = (hX11 a o S13) ++ ((wX0 cy a (o + 1) x15) ++ ((wX5 cy a (o + 54) (gX11_records S13)) ++ (wX8 cy a (o + 268) (gX11_text S13)))) from by simp only [wX11, List.append_assoc, List.nil_append, List.append_nil] <;> rfl)) rfl rfl rfl hl.1 rfl (Nat.le_of_ble_eq_true rfl) dX11_begin_58 ⟨Nat.zero_le _, Nat.zero_le _⟩ (fun H locs hP hD hS => ?_)
      obtain ⟨S17, eS18, h⟩ := lt_elim h
      have hP : va_P D vwCl (wX11 cy a o S17) H := by rw [eS18]; exact hP
      have hD : va_D (va_A (wX11 cy a o S) s.heap.size) (wX11 cy a o S17) := by rw [eS18]; exact hD
      refine lv_aload_n hx hb dX11_begin_61 rfl (lv_at hl 0 rfl) ?_
      refine va_get (D := D) (ci := 11) (v := .ref (a (o + 1))) (C := RX11) (T := TX11) (N := 3) hx hb hts hinX11 hown hK hP 0 rfl rfl 0 (by decide) hf10 (fun _ h9 => h9) rfl dX11_begin_62 ?_
      refine va_getN (D := D) (ci := 0) (v := .ref (a (o + 1 + 23))) (C := RX0) (T := TX0) (N := 14) hx hb hts hinX0 hown hK hP 1 rfl rfl 9 (by decide) hf164 (fun _ h9 => h9) rfl dX11_begin_65 ?_
      refine va_getN (D := D) (ci := 7) (v := .int (gX7_players (gX0_stage (gX11_now S17)))) (C := RX7) (T := TX7) (N := 5) hx hb hts hinX7 hown hK hP 24 rfl rfl 0 (by decide) hf177 (fun _ h9 => h9) rfl dX11_begin_68 ?_
      refine vx_ret (W.widen (k := cX rs) (n := sX rs) (Nat.zero_le _) (Nat.zero_le _) ?_)
      exact W.iret (v := (gX7_players (gX0_stage (gX11_now S17)))) hx hb hr (fun t ht hW => ⟨⟨(gX7_players (gX0_stage (gX11_now S17))), S17, rfl, some_in h, by rw [ht]; exact hP, hD⟩, hS.F ht⟩) hS.2.2 dX11_begin_71
    refine lv_if_ne (tgt := 26) hx hb dX11_begin_19 (by decide) (fun cc => ?_) (fun cc => ?_)
    · have h := ite_n cc h
      refine lv_iconst (v := (0 : Int32)) hx hb dX11_begin_26 (by decide) ?_
      exact Jj6 (0 : Int32) ls h (lv_sub hl [0, 1] rfl)
    · have h := ite_p cc h
      refine lv_iconst (v := (1 : Int32)) hx hb dX11_begin_22 (by decide) ?_
      refine lv_goto (tgt := 27) hx hb dX11_begin_23 (by decide) ?_
      exact Jj6 (1 : Int32) ls h (lv_sub hl [0, 1] rfl)
  refine lv_if_lt (tgt := 8) hx hb dX11_begin_1 (by decide) (fun cc => ?_) (fun cc => ?_)
  · have h := ite_p cc h
    refine lv_iconst (v := (0 : Int32)) hx hb dX11_begin_8 (by decide) ?_
    exact Jj2 (0 : Int32) ls h (lv_sub hl [0, 1] rfl)
  · have h := ite_n cc h
    refine lv_iconst (v := (1 : Int32)) hx hb dX11_begin_4 (by decide) ?_
    refine lv_goto (tgt := 9) hx hb dX11_begin_5 (by decide) ?_
    exact Jj2 (1 : Int32) ls h (lv_sub hl [0, 1] rfl)
set_option maxHeartbeats 4000000 in
set_option maxRecDepth 100000 in
theorem qX11_play (l : Launch) (hl9 : l.stackTraces = false) (D : va_G) (cy : Nat → ClassId) (tt : Nat → Nat) (a : Nat → Nat) (o : Nat) (S : SX11) (p1 : Int32) (sz : Nat) (rs : Nat ⊕ (Int32 × SX11)) (h : DX11_play S p1 = some rs) : vx_Met l yX11_play wsX11_play ({ frames := 7, cells := cX rs, slots := sX rs, locals := 206 } : Room) (xP D cy tt sz [.ref (a o), .int p1] (wX11 cy a o S)) (va_Qi (fun r (u : SX11) => Sum.inr (r, u) = rs) (fun u t => mB D sz (wX11 cy a o S) (wX11 cy a o u) t) (va_A (wX11 cy a o S) sz)) (xC D sz (wX11 cy a o S) rs) (cX rs) (sX rs) (va_A (wX11 cy a o S) sz) := by
  refine vx_ofW (cc := cX11_play) (maxL := 2) (ret := (some .int)) (by decide) rfl ?_
  intro p e s m args below meth c s₁ B hml htab hv
  obtain ⟨rfl, hsz, hP, hG, hD0, hX⟩ := hv
  have hx := B.exec
  have hb := B.bytes
  have hr := B.returns
  have hts := atoms_spec (ws := wsX11_play) B.pre
  have hown : s.vm.findClass RX11 = some m.cls := findClass_of_methodNamed B.named
  have hlocks := B.notSynchronized
  have hK := hG.1
  subst hsz
  have hD := hD0.self (sz := s.heap.size)
  have hA : ∀ q : Nat, s.heap.size ≤ q → (va_A (wX11 cy a o S) s.heap.size) q := fun q h => Or.inr h
  have hS : va_S (va_A (wX11 cy a o S) s.heap.size) s.heap s.heap [] := va_S.rf
  have hinX11 := (by decide +kernel : ∀ w ∈ wsX110, w ∈ wsX11_play)
  have hf10 := hts (.fieldLink RX11 10 "PianoRounds" "now" "LPianoRounds$Competition;") (by decide +kernel)
  have hinX0 := (by decide +kernel : ∀ w ∈ wsX00, w ∈ wsX11_play)
  have hf38 := va_Nw.use (A := ([.ref (a o), .int p1] : List Value).toArray) (U := s) (w := .fieldLinkNest "PianoRounds" 38 "PianoRounds$Competition" "state" "I" "PianoRounds") rfl (hG.2.1 _ (by decide +kernel))
  have hf19 := hts (.fieldLink RX11 19 "PianoRounds" "records" "LPianoRounds$Records;") (by decide +kernel)
  have hf164 := va_Nw.use (A := ([.ref (a o), .int p1] : List Value).toArray) (U := s) (w := .fieldLinkNest "PianoRounds" 164 "PianoRounds$Competition" "stage" "LPianoRounds$Stage;" "PianoRounds") rfl (hG.2.1 _ (by decide +kernel))
  have hinX7 := (by decide +kernel : ∀ w ∈ wsX70, w ∈ wsX11_play)
  have hf180 := va_Nw.use (A := ([.ref (a o), .int p1] : List Value).toArray) (U := s) (w := .fieldLinkNest "PianoRounds" 180 "PianoRounds$Stage" "played" "I" "PianoRounds") rfl (hG.2.1 _ (by decide +kernel))
  have hf177 := va_Nw.use (A := ([.ref (a o), .int p1] : List Value).toArray) (U := s) (w := .fieldLinkNest "PianoRounds" 177 "PianoRounds$Stage" "players" "I" "PianoRounds") rfl (hG.2.1 _ (by decide +kernel))
  have hl := lv_entry ([.ref (a o), .int p1]) (n := 2) (Nat.le_of_ble_eq_true rfl)
  rw [lg_entry_eq]
  generalize (lg_sl ([.ref (a o), .int p1]) ++ List.replicate (2 - (lg_sl ([.ref (a o), .int p1])).length) Slot.unset).toArray = ls at hl ⊢
  have hl : lv_has ls 2 [(0, .ref (a o)), (1, .int p1)] := hl
  rw [DX11_play] at h
  refine lv_iload_n hx hb dX11_play_0 rfl (lv_at hl 1 rfl) ?_
  refine lv_iconst (v := (0 : Int32)) hx hb dX11_play_1 (by decide) ?_
  refine lv_bipush (v := (20 : Int32)) hx hb dX11_play_2 (by decide) ?_
  obtain ⟨x1, e2, h⟩ := bd_some h
  refine pcS (As := [.int p1, .int (0 : Int32), .int (20 : Int32)]) (rest := []) (qX11_isBetween l D cy  p1 (0 : Int32) (20 : Int32) x1 e2) ⟨hx, hb, hml, hown, hts⟩ (va_cwS 3 hts gX11_play_X11_isBetween rfl rfl rfl (by decide +kernel) ⟨Nat.le_of_ble_eq_true rfl, Nat.le_of_ble_eq_true rfl⟩) hG (hP.sub [] rfl) rfl hl.1 rfl (Nat.le_of_ble_eq_true rfl) dX11_play_4 ⟨Nat.zero_le _, Nat.zero_le _⟩ ?_
  rcases tx_some h with ⟨k9, e9, h⟩ | ⟨x3, e4, h⟩
  · refine tcT (fun st v t q => by obtain ⟨⟨u, -, hu, -⟩, -⟩ := q; cases hu) hG hX hP hD hS hA (pm0 (wX11 cy a o S)) (fun h1 h2 => vx_runS (As := [.int x1]) (rest := []) ⟨hx, hb, hml, hown, hts⟩ (qX11_requireArgument l hl9 D cy tt  x1 (s.heap).size (Sum.inl k9) e9) (va_cwS 1 hts gX11_play_X11_requireArgument rfl rfl rfl (by decide +kernel) ⟨Nat.le_of_ble_eq_true rfl, Nat.le_of_ble_eq_true rfl⟩) ⟨h1, h2⟩ rfl rfl hl.1 rfl (lv_room (Nat.le_of_ble_eq_true rfl)) dX11_play_7 ⟨(by rw [← h]; exact Nat.le_refl 1), (by rw [← h]; exact Nat.le_refl 6)⟩) (fun ce q9 H locs hP hS hce hcv hcl => ?_)
    exact vx_out (fun x hx9 => (htab x hx9).elim) hlocks hce hcv hcl (fun t ht hvm => xThrow rfl h hP hD hS (by rw [ht]; exact Nat.le_refl _) (fun q _ => by rw [ht])) hS.2.2 (by rw [← h]; exact Nat.le_refl 1) (by rw [← h]; exact Nat.le_refl 6)
  refine tcNv hG hX hP hD hS hA (pm0 (wX11 cy a o S)) (fun h1 h2 => vx_runS (As := [.int x1]) (rest := []) ⟨hx, hb, hml, hown, hts⟩ (qX11_requireArgument l hl9 D cy tt  x1 (s.heap).size (Sum.inr x3) e4) (va_cwS 1 hts gX11_play_X11_requireArgument rfl rfl rfl (by decide +kernel) ⟨Nat.le_of_ble_eq_true rfl, Nat.le_of_ble_eq_true rfl⟩) ⟨h1, h2⟩ rfl rfl hl.1 rfl (lv_room (Nat.le_of_ble_eq_true rfl)) dX11_play_7 ⟨Nat.zero_le _, Nat.zero_le _⟩) (c2 := 0) (s2 := 0) rfl rfl (fun H locs hP hS => ?_)
  refine lv_aload_n hx hb dX11_play_10 rfl (lv_at hl 0 rfl) ?_
  refine va_get (D := D) (ci := 11) (v := .ref (a (o + 1))) (C := RX11) (T := TX11) (N := 3) hx hb hts hinX11 hown hK hP 0 rfl rfl 0 (by decide) hf10 (fun _ h9 => h9) rfl dX11_play_11 ?_
  refine va_getN (D := D) (ci := 0) (v := .int (gX0_state (gX11_now S))) (C := RX0) (T := TX0) (N := 14) hx hb hts hinX0 hown hK hP 1 rfl rfl 0 (by decide) hf38 (fun _ h9 => h9) rfl dX11_play_14 ?_
  refine lv_iconst (v := (1 : Int32)) hx hb dX11_play_17 (by decide) ?_
  obtain ⟨j6, hj6, h⟩ := jn_elim h
  have Jj6 : ∀ (x5 : Int32) (ls : Array Slot), j6 x5 = some rs → lv_has ls 2 [(0, .ref (a o)), (1, .int p1)] → W p l e (headSpec wsX11_play ({ frames := 7, cells := cX rs, slots := sX rs, locals := 206 } : Room)).room s m ([.ref (a o), .int p1] : List Value).toArray below meth c H locs 0 0 (vx_MQ below (va_Qi (fun r (u : SX11) => Sum.inr (r, u) = rs) (fun u t => mB D s.heap.size (wX11 cy a o S) (wX11 cy a o u) t) (va_A (wX11 cy a o S) s.heap.size)) (xC D s.heap.size (wX11 cy a o S) rs) ([.ref (a o), .int p1] : List Value).toArray s (cX rs) (sX rs) (va_A (wX11 cy a o S) s.heap.size)) (F0 m 49 ls [.int x5]) := by
    intro x5 ls h hl
    rw [hj6] at h
    rcases tx_some h with ⟨k9, e9, h⟩ | ⟨x7, e8, h⟩
    · refine tcT (fun st v t q => by obtain ⟨⟨u, -, hu, -⟩, -⟩ := q; cases hu) hG hX hP hD hS hA (pm0 (wX11 cy a o S)) (fun h1 h2 => vx_runS (As := [.int x5]) (rest := []) ⟨hx, hb, hml, hown, hts⟩ (qX11_requireState l hl9 D cy tt  x5 (H).size (Sum.inl k9) e9) (va_cwS 1 hts gX11_play_X11_requireState rfl rfl rfl (by decide +kernel) ⟨Nat.le_of_ble_eq_true rfl, Nat.le_of_ble_eq_true rfl⟩) ⟨h1, h2⟩ rfl rfl hl.1 rfl (lv_room (Nat.le_of_ble_eq_true rfl)) dX11_play_49 ⟨(by rw [← h]; exact Nat.le_refl 1), (by rw [← h]; exact Nat.le_refl 6)⟩) (fun ce q9 H locs hP hS hce hcv hcl => ?_)
      exact vx_out (fun x hx9 => (htab x hx9).elim) hlocks hce hcv hcl (fun t ht hvm => xThrow rfl h hP hD hS (by rw [ht]; exact Nat.le_refl _) (fun q _ => by rw [ht])) hS.2.2 (by rw [← h]; exact Nat.le_refl 1) (by rw [← h]; exact Nat.le_refl 6)
    refine tcNv hG hX hP hD hS hA (pm0 (wX11 cy a o S)) (fun h1 h2 => vx_runS (As := [.int x5]) (rest := []) ⟨hx, hb, hml, hown, hts⟩ (qX11_requireState l hl9 D cy tt  x5 (H).size (Sum.inr x7) e8) (va_cwS 1 hts gX11_play_X11_requireState rfl rfl rfl (by decide +kernel) ⟨Nat.le_of_ble_eq_true rfl, Nat.le_of_ble_eq_true rfl⟩) ⟨h1, h2⟩ rfl rfl hl.1 rfl (lv_room (Nat.le_of_ble_eq_true rfl)) dX11_play_49 ⟨Nat.zero_le _, Nat.zero_le _⟩) (c2 := 0) (s2 := 0) rfl rfl (fun H locs hP hS => ?_)
    refine lv_aload_n hx hb dX11_play_52 rfl (lv_at hl 0 rfl) ?_
    refine va_get (D := D) (ci := 11) (v := .ref (a (o + 54))) (C := RX11) (T := TX11) (N := 3) hx hb hts hinX11 hown hK hP 0 rfl rfl 1 (by decide) hf19 (fun _ h9 => h9) rfl dX11_play_53 ?_
    refine lv_aload_n hx hb dX11_play_56 rfl (lv_at hl 0 rfl) ?_
    refine va_get (D := D) (ci := 11) (v := .ref (a (o + 1))) (C := RX11) (T := TX11) (N := 3) hx hb hts hinX11 hown hK hP 0 rfl rfl 0 (by decide) hf10 (fun _ h9 => h9) rfl dX11_play_57 ?_
    obtain ⟨x9, e10, h⟩ := bd_some h
    refine smVv (As := [.ref (a (o + 1))]) (rest := []) (ws' := (wX11 cy a o (uX11_records S x9))) (q0 := 0) (qX5_keep l D cy a (o + 54) a (o + 1) (gX11_records S) (gX11_now S)  (H).size x9 e10) ⟨hx, hb, hml, hown, hts⟩ (cwV 1 hts gX11_play_X5_keep rfl rfl rfl (by decide +kernel) ⟨Nat.le_of_ble_eq_true rfl, Nat.le_of_ble_eq_true rfl⟩) hG hP hD hS hA (pm2r (X := (hX11 a o S)) (c1 := (wX5 cy a (o + 54) (gX11_records S))) (Y := ([] : va_W)) (c2 := (wX0 cy a (o + 1) (gX11_now S))) (Z := (wX8 cy a (o + 268) (gX11_text S))) (show (wX11 cy a o S) = (hX11 a o S) ++ ((wX0 cy a (o + 1) (gX11_now S)) ++ (([] : va_W) ++ ((wX5 cy a (o + 54) (gX11_records S)) ++ (wX8 cy a (o + 268) (gX11_text S))))) from by simp only [wX11, List.append_assoc, List.nil_append, List.append_nil] <;> rfl)) (pm2r (X := (hX11 a o S)) (c1 := (wX5 cy a (o + 54) x9)) (Y := ([] : va_W)) (c2 := (wX0 cy a (o + 1) (gX11_now S))) (Z := (wX8 cy a (o + 268) (gX11_text S))) (show (wX11 cy a o (uX11_records S x9)) = (hX11 a o S) ++ ((wX0 cy a (o + 1) (gX11_now S)) ++ (([] : va_W) ++ ((wX5 cy a (o + 54) x9) ++ (wX8 cy a (o + 268) (gX11_text S))))) from by simp only [wX11, List.append_assoc, List.nil_append, List.append_nil] <;> rfl)) rfl rfl rfl hl.1 rfl (Nat.le_of_ble_eq_true rfl) dX11_play_60 ⟨Nat.zero_le _, Nat.zero_le _⟩ (fun H locs hP hD hS => ?_)
    obtain ⟨S11, eS12, h⟩ := lt_elim h
    have hP : va_P D vwCl (wX11 cy a o S11) H := by rw [eS12]; exact hP
    have hD : va_D (va_A (wX11 cy a o S) s.heap.size) (wX11 cy a o S11) := by rw [eS12]; exact hD
    refine lv_aload_n hx hb dX11_play_63 rfl (lv_at hl 0 rfl) ?_
    refine va_get (D := D) (ci := 11) (v := .ref (a (o + 1))) (C := RX11) (T := TX11) (N := 3) hx hb hts hinX11 hown hK hP 0 rfl rfl 0 (by decide) hf10 (fun _ h9 => h9) rfl dX11_play_64 ?_
    refine va_getN (D := D) (ci := 0) (v := .ref (a (o + 1 + 23))) (C := RX0) (T := TX0) (N := 14) hx hb hts hinX0 hown hK hP 1 rfl rfl 9 (by decide) hf164 (fun _ h9 => h9) rfl dX11_play_67 ?_
    refine lv_iload_n hx hb dX11_play_70 rfl (lv_at hl 1 rfl) ?_
    obtain ⟨x13, e14, h⟩ := bd_some h
    refine smVi (As := [.int p1]) (rest := []) (ws' := (wX11 cy a o (uX11_now S11 (uX0_stage (gX11_now S11) x13.2)))) (q0 := 0) (qX7_letNextPlay l D cy a (o + 1 + 23) (gX0_stage (gX11_now S11)) p1 (H).size x13 e14) ⟨hx, hb, hml, hown, hts⟩ (cwV 1 hts gX11_play_X7_letNextPlay rfl rfl rfl (by decide +kernel) ⟨Nat.le_of_ble_eq_true rfl, Nat.le_of_ble_eq_true rfl⟩) hG hP hD hS hA (pm1 (X := ((hX11 a o S11) ++ ((hX0 a (o + 1) (gX11_now S11)) ++ ((wX10 cy a (o + 1 + 1) (gX0_works (gX11_now S11))) ++ ((wX2 cy a (o + 1 + 5) (gX0_entrants (gX11_now S11))) ++ ((rowsW (cy 2) (cy 0) a (o + 1 + 7) 4 6 (gX0_rules (gX11_now S11))) ++ ((wX4 cy a (o + 1 + 12) (gX0_programs (gX11_now S11))) ++ (wX3 cy a (o + 1 + 14) (gX0_jury (gX11_now S11)))))))))) (c := (wX7 cy a (o + 1 + 23) (gX0_stage (gX11_now S11)))) (Y := ((wX6 cy a (o + 1 + 26) (gX0_sheet (gX11_now S11))) ++ ((wX9 cy a (o + 1 + 35) (gX0_tie (gX11_now S11))) ++ ((rowsW (cy 2) (cy 0) a (o + 1 + 46) 4 12 (gX0_closedScores (gX11_now S11))) ++ ((wX1 cy a (o + 1 + 51) (gX0_cut (gX11_now S11))) ++ ((wX5 cy a (o + 54) (gX11_records S11)) ++ (wX8 cy a (o + 268) (gX11_text S11)))))))) (show (wX11 cy a o S11) = ((hX11 a o S11) ++ ((hX0 a (o + 1) (gX11_now S11)) ++ ((wX10 cy a (o + 1 + 1) (gX0_works (gX11_now S11))) ++ ((wX2 cy a (o + 1 + 5) (gX0_entrants (gX11_now S11))) ++ ((rowsW (cy 2) (cy 0) a (o + 1 + 7) 4 6 (gX0_rules (gX11_now S11))) ++ ((wX4 cy a (o + 1 + 12) (gX0_programs (gX11_now S11))) ++ (wX3 cy a (o + 1 + 14) (gX0_jury (gX11_now S11))))))))) ++ ((wX7 cy a (o + 1 + 23) (gX0_stage (gX11_now S11))) ++ ((wX6 cy a (o + 1 + 26) (gX0_sheet (gX11_now S11))) ++ ((wX9 cy a (o + 1 + 35) (gX0_tie (gX11_now S11))) ++ ((rowsW (cy 2) (cy 0) a (o + 1 + 46) 4 12 (gX0_closedScores (gX11_now S11))) ++ ((wX1 cy a (o + 1 + 51) (gX0_cut (gX11_now S11))) ++ ((wX5 cy a (o + 54) (gX11_records S11)) ++ (wX8 cy a (o + 268) (gX11_text S11)))))))) from by simp only [wX0, wX11, List.append_assoc, List.nil_append, List.append_nil] <;> rfl)) (pm1 (X := ((hX11 a o S11) ++ ((hX0 a (o + 1) (gX11_now S11)) ++ ((wX10 cy a (o + 1 + 1) (gX0_works (gX11_now S11))) ++ ((wX2 cy a (o + 1 + 5) (gX0_entrants (gX11_now S11))) ++ ((rowsW (cy 2) (cy 0) a (o + 1 + 7) 4 6 (gX0_rules (gX11_now S11))) ++ ((wX4 cy a (o + 1 + 12) (gX0_programs (gX11_now S11))) ++ (wX3 cy a (o + 1 + 14) (gX0_jury (gX11_now S11)))))))))) (c := (wX7 cy a (o + 1 + 23) x13.2)) (Y := ((wX6 cy a (o + 1 + 26) (gX0_sheet (gX11_now S11))) ++ ((wX9 cy a (o + 1 + 35) (gX0_tie (gX11_now S11))) ++ ((rowsW (cy 2) (cy 0) a (o + 1 + 46) 4 12 (gX0_closedScores (gX11_now S11))) ++ ((wX1 cy a (o + 1 + 51) (gX0_cut (gX11_now S11))) ++ ((wX5 cy a (o + 54) (gX11_records S11)) ++ (wX8 cy a (o + 268) (gX11_text S11)))))))) (show (wX11 cy a o (uX11_now S11 (uX0_stage (gX11_now S11) x13.2))) = ((hX11 a o S11) ++ ((hX0 a (o + 1) (gX11_now S11)) ++ ((wX10 cy a (o + 1 + 1) (gX0_works (gX11_now S11))) ++ ((wX2 cy a (o + 1 + 5) (gX0_entrants (gX11_now S11))) ++ ((rowsW (cy 2) (cy 0) a (o + 1 + 7) 4 6 (gX0_rules (gX11_now S11))) ++ ((wX4 cy a (o + 1 + 12) (gX0_programs (gX11_now S11))) ++ (wX3 cy a (o + 1 + 14) (gX0_jury (gX11_now S11))))))))) ++ ((wX7 cy a (o + 1 + 23) x13.2) ++ ((wX6 cy a (o + 1 + 26) (gX0_sheet (gX11_now S11))) ++ ((wX9 cy a (o + 1 + 35) (gX0_tie (gX11_now S11))) ++ ((rowsW (cy 2) (cy 0) a (o + 1 + 46) 4 12 (gX0_closedScores (gX11_now S11))) ++ ((wX1 cy a (o + 1 + 51) (gX0_cut (gX11_now S11))) ++ ((wX5 cy a (o + 54) (gX11_records S11)) ++ (wX8 cy a (o + 268) (gX11_text S11)))))))) from by simp only [wX0, wX11, List.append_assoc, List.nil_append, List.append_nil] <;> rfl)) rfl rfl rfl hl.1 rfl (Nat.le_of_ble_eq_true rfl) dX11_play_71 ⟨Nat.zero_le _, Nat.zero_le _⟩ (fun H locs hP hD hS => ?_)
    obtain ⟨S15, eS16, h⟩ := lt_elim h
    have hP : va_P D vwCl (wX11 cy a o S15) H := by rw [eS16]; exact hP
    have hD : va_D (va_A (wX11 cy a o S) s.heap.size) (wX11 cy a o S15) := by rw [eS16]; exact hD
    refine vx_ret (W.widen (k := cX rs) (n := sX rs) (Nat.zero_le _) (Nat.zero_le _) ?_)
    exact W.iret (v := x13.1) hx hb hr (fun t ht hW => ⟨⟨x13.1, S15, rfl, some_in h, by rw [ht]; exact hP, hD⟩, hS.F ht⟩) hS.2.2 dX11_play_74
  obtain ⟨j17, hj17, h⟩ := jn_elim h
  have Jj17 : ∀ (ls : Array Slot), j17 () = some rs → lv_has ls 2 [(0, .ref (a o)), (1, .int p1)] → W p l e (headSpec wsX11_play ({ frames := 7, cells := cX rs, slots := sX rs, locals := 206 } : Room)).room s m ([.ref (a o), .int p1] : List Value).toArray below meth c H locs 0 0 (vx_MQ below (va_Qi (fun r (u : SX11) => Sum.inr (r, u) = rs) (fun u t => mB D s.heap.size (wX11 cy a o S) (wX11 cy a o u) t) (va_A (wX11 cy a o S) s.heap.size)) (xC D s.heap.size (wX11 cy a o S) rs) ([.ref (a o), .int p1] : List Value).toArray s (cX rs) (sX rs) (va_A (wX11 cy a o S) s.heap.size)) (F0 m 48 ls []) := by
    intro ls h hl
    rw [hj17] at h
    refine lv_iconst (v := (0 : Int32)) hx hb dX11_play_48 (by decide) ?_
    exact Jj6 (0 : Int32) ls h (lv_sub hl [0, 1] rfl)
  refine lv_icmp_ne (tgt := 48) hx hb dX11_play_18 (by decide) (fun cc => ?_) (fun cc => ?_)
  · have h := ite_n cc h
    exact Jj17  ls h (lv_sub hl [0, 1] rfl)
  · have h := ite_p cc h
    refine lv_aload_n hx hb dX11_play_21 rfl (lv_at hl 0 rfl) ?_
    refine va_get (D := D) (ci := 11) (v := .ref (a (o + 1))) (C := RX11) (T := TX11) (N := 3) hx hb hts hinX11 hown hK hP 0 rfl rfl 0 (by decide) hf10 (fun _ h9 => h9) rfl dX11_play_22 ?_
    refine va_getN (D := D) (ci := 0) (v := .ref (a (o + 1 + 23))) (C := RX0) (T := TX0) (N := 14) hx hb hts hinX0 hown hK hP 1 rfl rfl 9 (by decide) hf164 (fun _ h9 => h9) rfl dX11_play_25 ?_
    refine va_getN (D := D) (ci := 7) (v := .int (gX7_played (gX0_stage (gX11_now S)))) (C := RX7) (T := TX7) (N := 5) hx hb hts hinX7 hown hK hP 24 rfl rfl 1 (by decide) hf180 (fun _ h9 => h9) rfl dX11_play_28 ?_
    refine lv_aload_n hx hb dX11_play_31 rfl (lv_at hl 0 rfl) ?_
    refine va_get (D := D) (ci := 11) (v := .ref (a (o + 1))) (C := RX11) (T := TX11) (N := 3) hx hb hts hinX11 hown hK hP 0 rfl rfl 0 (by decide) hf10 (fun _ h9 => h9) rfl dX11_play_32 ?_
    refine va_getN (D := D) (ci := 0) (v := .ref (a (o + 1 + 23))) (C := RX0) (T := TX0) (N := 14) hx hb hts hinX0 hown hK hP 1 rfl rfl 9 (by decide) hf164 (fun _ h9 => h9) rfl dX11_play_35 ?_
    refine va_getN (D := D) (ci := 7) (v := .int (gX7_players (gX0_stage (gX11_now S)))) (C := RX7) (T := TX7) (N := 5) hx hb hts hinX7 hown hK hP 24 rfl rfl 0 (by decide) hf177 (fun _ h9 => h9) rfl dX11_play_38 ?_
    refine lv_icmp_ge (tgt := 48) hx hb dX11_play_41 (by decide) (fun cc => ?_) (fun cc => ?_)
    · have h := ite_p cc h
      exact Jj17  ls h (lv_sub hl [0, 1] rfl)
    · have h := ite_n cc h
      refine lv_iconst (v := (1 : Int32)) hx hb dX11_play_44 (by decide) ?_
      refine lv_goto (tgt := 49) hx hb dX11_play_45 (by decide) ?_
      exact Jj6 (1 : Int32) ls h (lv_sub hl [0, 1] rfl)
