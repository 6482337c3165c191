set_option maxHeartbeats 4000000 in
set_option maxRecDepth 100000 in
theorem qX11_withdraw (l : Launch) (hl9 : l.stackTraces = false) (D : va_G) (cy : Nat → ClassId) (tt : Nat → Nat) (a : Nat → Nat) (o : Nat) (S : SX11) (p1 : Int32) (sz : Nat) (rs : Nat ⊕ (Int32 × SX11)) (h : DX11_withdraw S p1 = some rs) : vx_Met l yX11_withdraw wsX11_withdraw ({ frames := 8, cells := cX rs, slots := sX rs, locals := 206 } : Room) (xP D cy tt sz [.ref (a o), .int p1] (wX11 cy a o S)) (va_Qi (fun r (u : SX11) => Sum.inr (r, u) = rs) (fun u t => mB D sz (wX11 cy a o S) (wX11 cy a o u) t) (va_A (wX11 cy a o S) sz)) (xC D sz (wX11 cy a o S) rs) (cX rs) (sX rs) (va_A (wX11 cy a o S) sz) := by
  refine vx_ofW (cc := cX11_withdraw) (maxL := 2) (ret := (some .int)) (by decide) rfl ?_
  intro p e s m args below meth c s₁ B hml htab hv
  obtain ⟨rfl, hsz, hP, hG, hD0, hX⟩ := hv
  have hx := B.exec
  have hb := B.bytes
  have hr := B.returns
  have hts := atoms_spec (ws := wsX11_withdraw) B.pre
  have hown : s.vm.findClass RX11 = some m.cls := findClass_of_methodNamed B.named
  have hlocks := B.notSynchronized
  have hK := hG.1
  subst hsz
  have hD := hD0.self (sz := s.heap.size)
  have hA : ∀ q : Nat, s.heap.size ≤ q → (va_A (wX11 cy a o S) s.heap.size) q := fun q h => Or.inr h
  have hS : va_S (va_A (wX11 cy a o S) s.heap.size) s.heap s.heap [] := va_S.rf
  have hinX11 := (by decide +kernel : ∀ w ∈ wsX110, w ∈ wsX11_withdraw)
  have hf10 := hts (.fieldLink RX11 10 "PianoRounds" "now" "LPianoRounds$Competition;") (by decide +kernel)
  have hinX0 := (by decide +kernel : ∀ w ∈ wsX00, w ∈ wsX11_withdraw)
  have hf73 := va_Nw.use (A := ([.ref (a o), .int p1] : List Value).toArray) (U := s) (w := .fieldLinkNest "PianoRounds" 73 "PianoRounds$Competition" "entrants" "LPianoRounds$Entrants;" "PianoRounds") rfl (hG.2.1 _ (by decide +kernel))
  have hf38 := va_Nw.use (A := ([.ref (a o), .int p1] : List Value).toArray) (U := s) (w := .fieldLinkNest "PianoRounds" 38 "PianoRounds$Competition" "state" "I" "PianoRounds") rfl (hG.2.1 _ (by decide +kernel))
  have hf19 := hts (.fieldLink RX11 19 "PianoRounds" "records" "LPianoRounds$Records;") (by decide +kernel)
  have hf164 := va_Nw.use (A := ([.ref (a o), .int p1] : List Value).toArray) (U := s) (w := .fieldLinkNest "PianoRounds" 164 "PianoRounds$Competition" "stage" "LPianoRounds$Stage;" "PianoRounds") rfl (hG.2.1 _ (by decide +kernel))
  have hl := lv_entry ([.ref (a o), .int p1]) (n := 2) (Nat.le_of_ble_eq_true rfl)
  rw [lg_entry_eq]
  generalize (lg_sl ([.ref (a o), .int p1]) ++ List.replicate (2 - (lg_sl ([.ref (a o), .int p1])).length) Slot.unset).toArray = ls at hl ⊢
  have hl : lv_has ls 2 [(0, .ref (a o)), (1, .int p1)] := hl
  rw [DX11_withdraw] at h
  refine lv_aload_n hx hb dX11_withdraw_0 rfl (lv_at hl 0 rfl) ?_
  refine lv_iload_n hx hb dX11_withdraw_1 rfl (lv_at hl 1 rfl) ?_
  rcases tx_some h with ⟨k9, e9, h⟩ | ⟨x1, e2, h⟩
  · refine tcT (fun st v t q => by obtain ⟨⟨u, -, hu, -⟩, -⟩ := q; cases hu) hG hX hP hD hS hA (pm1 (X := ([] : va_W)) (c := (wX11n cy a o (gX11_now S))) (Y := ((wX5 cy a (o + 54) (gX11_records S)) ++ (wX8 cy a (o + 268) (gX11_text S)))) (show (wX11 cy a o S) = ([] : va_W) ++ ((wX11n cy a o (gX11_now S)) ++ ((wX5 cy a (o + 54) (gX11_records S)) ++ (wX8 cy a (o + 268) (gX11_text S)))) from by simp only [wX11, wX11n, List.append_assoc, List.nil_append, List.append_nil] <;> rfl)) (fun h1 h2 => vx_runV (As := [.int p1]) (rest := []) ⟨hx, hb, hml, hown, hts⟩ (qX11_requireEntrant l hl9 D cy tt a o (gX11_now S) p1 (s.heap).size (Sum.inl k9) e9) (cwV 1 hts gX11_withdraw_X11_requireEntrant rfl rfl rfl (by decide +kernel) ⟨Nat.le_of_ble_eq_true rfl, Nat.le_of_ble_eq_true rfl⟩) ⟨h1, va_recv hK hP (ci := 11) (q0 := 0) rfl rfl, h2⟩ rfl rfl hl.1 rfl (lv_room (Nat.le_of_ble_eq_true rfl)) dX11_withdraw_2 ⟨(by rw [← h]; exact Nat.le_refl 1), (by rw [← h]; exact Nat.le_refl 6)⟩) (fun ce q9 H locs hP hS hce hcv hcl => ?_)
    exact vx_out (fun x hx9 => (htab x hx9).elim) hlocks hce hcv hcl (fun t ht hvm => xThrow rfl h hP hD hS (by rw [ht]; exact Nat.le_refl _) (fun q _ => by rw [ht])) hS.2.2 (by rw [← h]; exact Nat.le_refl 1) (by rw [← h]; exact Nat.le_refl 6)
  refine tcNv hG hX hP hD hS hA (pm1 (X := ([] : va_W)) (c := (wX11n cy a o (gX11_now S))) (Y := ((wX5 cy a (o + 54) (gX11_records S)) ++ (wX8 cy a (o + 268) (gX11_text S)))) (show (wX11 cy a o S) = ([] : va_W) ++ ((wX11n cy a o (gX11_now S)) ++ ((wX5 cy a (o + 54) (gX11_records S)) ++ (wX8 cy a (o + 268) (gX11_text S)))) from by simp only [wX11, wX11n, List.append_assoc, List.nil_append, List.append_nil] <;> rfl)) (fun h1 h2 => vx_runV (As := [.int p1]) (rest := []) ⟨hx, hb, hml, hown, hts⟩ (qX11_requireEntrant l hl9 D cy tt a o (gX11_now S) p1 (s.heap).size (Sum.inr x1) e2) (cwV 1 hts gX11_withdraw_X11_requireEntrant rfl rfl rfl (by decide +kernel) ⟨Nat.le_of_ble_eq_true rfl, Nat.le_of_ble_eq_true rfl⟩) ⟨h1, va_recv hK hP (ci := 11) (q0 := 0) rfl rfl, h2⟩ rfl rfl hl.1 rfl (lv_room (Nat.le_of_ble_eq_true rfl)) dX11_withdraw_2 ⟨Nat.zero_le _, Nat.zero_le _⟩) (c2 := 0) (s2 := 0) rfl rfl (fun H locs hP hS => ?_)
  refine lv_aload_n hx hb dX11_withdraw_5 rfl (lv_at hl 0 rfl) ?_
  refine va_get (D := D) (ci := 11) (v := .ref (a (o + 1))) (C := RX11) (T := TX11) (N := 3) hx hb hts hinX11 hown hK hP 0 rfl rfl 0 (by decide) hf10 (fun _ h9 => h9) rfl dX11_withdraw_6 ?_
  refine va_getN (D := D) (ci := 0) (v := .ref (a (o + 1 + 5))) (C := RX0) (T := TX0) (N := 14) hx hb hts hinX0 hown hK hP 1 rfl rfl 5 (by decide) hf73 (fun _ h9 => h9) rfl dX11_withdraw_9 ?_
  refine lv_iload_n hx hb dX11_withdraw_12 rfl (lv_at hl 1 rfl) ?_
  obtain ⟨x3, e4, h⟩ := bd_some h
  refine pcV (As := [.int p1]) (rest := []) (q0 := 0) (qX2_isIn l D cy a (o + 1 + 5) (gX0_entrants (gX11_now S)) p1 x3 e4) ⟨hx, hb, hml, hown, hts⟩ (cwV 1 hts gX11_withdraw_X2_isIn rfl rfl rfl (by decide +kernel) ⟨Nat.le_of_ble_eq_true rfl, Nat.le_of_ble_eq_true rfl⟩) hG (P_seg (X := ((hX11 a o S) ++ ((hX0 a (o + 1) (gX11_now S)) ++ (wX10 cy a (o + 1 + 1) (gX0_works (gX11_now S)))))) (c := (wX2 cy a (o + 1 + 5) (gX0_entrants (gX11_now S)))) (Y := ((rowsW (cy 2) (cy 0) a (o + 1 + 7) 4 6 (gX0_rules (gX11_now S))) ++ ((wX4 cy a (o + 1 + 12) (gX0_programs (gX11_now S))) ++ ((wX3 cy a (o + 1 + 14) (gX0_jury (gX11_now S))) ++ ((wX7 cy a (o + 1 + 23) (gX0_stage (gX11_now S))) ++ ((wX6 cy a (o + 1 + 26) (gX0_sheet (gX11_now S))) ++ ((wX9 cy a (o + 1 + 35) (gX0_tie (gX11_now S))) ++ ((rowsW (cy 2) (cy 0) a (o + 1 + 46) 4 12 (gX0_closedScores (gX11_now S))) ++ ((wX1 cy a (o + 1 + 51) (gX0_cut (gX11_now S))) ++ ((wX5 cy a (o + 54) (gX11_records S)) ++ (wX8 cy a (o + 268) (gX11_text S)))))))))))) hP (by simp only [wX0, wX11, List.append_assoc, List.nil_append, List.append_nil] <;> rfl)) rfl rfl rfl hl.1 rfl (Nat.le_of_ble_eq_true rfl) dX11_withdraw_13 ⟨Nat.zero_le _, Nat.zero_le _⟩ ?_
  rcases tx_some h with ⟨k9, e9, h⟩ | ⟨x5, e6, h⟩
  · refine tcT (fun st v t q => by obtain ⟨⟨u, -, hu, -⟩, -⟩ := q; cases hu) hG hX hP hD hS hA (pm0 (wX11 cy a o S)) (fun h1 h2 => vx_runS (As := [.int x3]) (rest := []) ⟨hx, hb, hml, hown, hts⟩ (qX11_requireState l hl9 D cy tt  x3 (H).size (Sum.inl k9) e9) (va_cwS 1 hts gX11_withdraw_X11_requireState rfl rfl rfl (by decide +kernel) ⟨Nat.le_of_ble_eq_true rfl, Nat.le_of_ble_eq_true rfl⟩) ⟨h1, h2⟩ rfl rfl hl.1 rfl (lv_room (Nat.le_of_ble_eq_true rfl)) dX11_withdraw_16 ⟨(by rw [← h]; exact Nat.le_refl 1), (by rw [← h]; exact Nat.le_refl 6)⟩) (fun ce q9 H locs hP hS hce hcv hcl => ?_)
    exact vx_out (fun x hx9 => (htab x hx9).elim) hlocks hce hcv hcl (fun t ht hvm => xThrow rfl h hP hD hS (by rw [ht]; exact Nat.le_refl _) (fun q _ => by rw [ht])) hS.2.2 (by rw [← h]; exact Nat.le_refl 1) (by rw [← h]; exact Nat.le_refl 6)
  refine tcNv hG hX hP hD hS hA (pm0 (wX11 cy a o S)) (fun h1 h2 => vx_runS (As := [.int x3]) (rest := []) ⟨hx, hb, hml, hown, hts⟩ (qX11_requireState l hl9 D cy tt  x3 (H).size (Sum.inr x5) e6) (va_cwS 1 hts gX11_withdraw_X11_requireState rfl rfl rfl (by decide +kernel) ⟨Nat.le_of_ble_eq_true rfl, Nat.le_of_ble_eq_true rfl⟩) ⟨h1, h2⟩ rfl rfl hl.1 rfl (lv_room (Nat.le_of_ble_eq_true rfl)) dX11_withdraw_16 ⟨Nat.zero_le _, Nat.zero_le _⟩) (c2 := 0) (s2 := 0) rfl rfl (fun H locs hP hS => ?_)
  refine lv_aload_n hx hb dX11_withdraw_19 rfl (lv_at hl 0 rfl) ?_
  refine va_get (D := D) (ci := 11) (v := .ref (a (o + 1))) (C := RX11) (T := TX11) (N := 3) hx hb hts hinX11 hown hK hP 0 rfl rfl 0 (by decide) hf10 (fun _ h9 => h9) rfl dX11_withdraw_20 ?_
  refine va_getN (D := D) (ci := 0) (v := .int (gX0_state (gX11_now S))) (C := RX0) (T := TX0) (N := 14) hx hb hts hinX0 hown hK hP 1 rfl rfl 0 (by decide) hf38 (fun _ h9 => h9) rfl dX11_withdraw_23 ?_
  obtain ⟨j8, hj8, h⟩ := jn_elim h
  have Jj8 : ∀ (x7 : Int32) (ls : Array Slot), j8 x7 = some rs → lv_has ls 2 [(0, .ref (a o)), (1, .int p1)] → W p l e (headSpec wsX11_withdraw ({ frames := 8, cells := cX rs, slots := sX rs, locals := 206 } : Room)).room s m ([.ref (a o), .int p1] : List Value).toArray below meth c H locs 0 0 (vx_MQ below (va_Qi (fun r (u : SX11) => Sum.inr (r, u) = rs) (fun u t => mB D s.heap.size (wX11 cy a o S) (wX11 cy a o u) t) (va_A (wX11 cy a o S) s.heap.size)) (xC D s.heap.size (wX11 cy a o S) rs) ([.ref (a o), .int p1] : List Value).toArray s (cX rs) (sX rs) (va_A (wX11 cy a o S) s.heap.size)) (F0 m 59 ls [.int x7]) := by
    intro x7 ls h hl
    rw [hj8] at h
    rcases tx_some h with ⟨k9, e9, h⟩ | ⟨x9, e10, h⟩
    · refine tcT (fun st v t q => by obtain ⟨⟨u, -, hu, -⟩, -⟩ := q; cases hu) hG hX hP hD hS hA (pm0 (wX11 cy a o S)) (fun h1 h2 => vx_runS (As := [.int x7]) (rest := []) ⟨hx, hb, hml, hown, hts⟩ (qX11_requireState l hl9 D cy tt  x7 (H).size (Sum.inl k9) e9) (va_cwS 1 hts gX11_withdraw_X11_requireState rfl rfl rfl (by decide +kernel) ⟨Nat.le_of_ble_eq_true rfl, Nat.le_of_ble_eq_true rfl⟩) ⟨h1, h2⟩ rfl rfl hl.1 rfl (lv_room (Nat.le_of_ble_eq_true rfl)) dX11_withdraw_59 ⟨(by rw [← h]; exact Nat.le_refl 1), (by rw [← h]; exact Nat.le_refl 6)⟩) (fun ce q9 H locs hP hS hce hcv hcl => ?_)
      exact vx_out (fun x hx9 => (htab x hx9).elim) hlocks hce hcv hcl (fun t ht hvm => xThrow rfl h hP hD hS (by rw [ht]; exact Nat.le_refl _) (fun q _ => by rw [ht])) hS.2.2 (by rw [← h]; exact Nat.le_refl 1) (by rw [← h]; exact Nat.le_refl 6)
    refine tcNv hG hX hP hD hS hA (pm0 (wX11 cy a o S)) (fun h1 h2 => vx_runS (As := [.int x7]) (rest := []) ⟨hx, hb, hml, hown, hts⟩ (qX11_requireState l hl9 D cy tt  x7 (H).size (Sum.inr x9) e10) (va_cwS 1 hts gX11_withdraw_X11_requireState rfl rfl rfl (by decide +kernel) ⟨Nat.le_of_ble_eq_true rfl, Nat.le_of_ble_eq_true rfl⟩) ⟨h1, h2⟩ rfl rfl hl.1 rfl (lv_room (Nat.le_of_ble_eq_true rfl)) dX11_withdraw_59 ⟨Nat.zero_le _, Nat.zero_le _⟩) (c2 := 0) (s2 := 0) rfl rfl (fun H locs hP hS => ?_)
    refine lv_aload_n hx hb dX11_withdraw_62 rfl (lv_at hl 0 rfl) ?_
    refine va_get (D := D) (ci := 11) (v := .ref (a (o + 54))) (C := RX11) (T := TX11) (N := 3) hx hb hts hinX11 hown hK hP 0 rfl rfl 1 (by decide) hf19 (fun _ h9 => h9) rfl dX11_withdraw_63 ?_
    refine lv_aload_n hx hb dX11_withdraw_66 rfl (lv_at hl 0 rfl) ?_
    refine va_get (D := D) (ci := 11) (v := .ref (a (o + 1))) (C := RX11) (T := TX11) (N := 3) hx hb hts hinX11 hown hK hP 0 rfl rfl 0 (by decide) hf10 (fun _ h9 => h9) rfl dX11_withdraw_67 ?_
    obtain ⟨x11, e12, h⟩ := bd_some h
    refine smVv (As := [.ref (a (o + 1))]) (rest := []) (ws' := (wX11 cy a o (uX11_records S x11))) (q0 := 0) (qX5_keep l D cy a (o + 54) a (o + 1) (gX11_records S) (gX11_now S)  (H).size x11 e12) ⟨hx, hb, hml, hown, hts⟩ (cwV 1 hts gX11_withdraw_X5_keep rfl rfl rfl (by decide +kernel) ⟨Nat.le_of_ble_eq_true rfl, Nat.le_of_ble_eq_true rfl⟩) hG hP hD hS hA (pm2r (X := (hX11 a o S)) (c1 := (wX5 cy a (o + 54) (gX11_records S))) (Y := ([] : va_W)) (c2 := (wX0 cy a (o + 1) (gX11_now S))) (Z := (wX8 cy a (o + 268) (gX11_text S))) (show (wX11 cy a o S) = (hX11 a o S) ++ ((wX0 cy a (o + 1) (gX11_now S)) ++ (([] : va_W) ++ ((wX5 cy a (o + 54) (gX11_records S)) ++ (wX8 cy a (o + 268) (gX11_text S))))) from by simp only [wX11, List.append_assoc, List.nil_append, List.append_nil] <;> rfl)) (pm2r (X := (hX11 a o S)) (c1 := (wX5 cy a (o + 54) x11)) (Y := ([] : va_W)) (c2 := (wX0 cy a (o + 1) (gX11_now S))) (Z := (wX8 cy a (o + 268) (gX11_text S))) (show (wX11 cy a o (uX11_records S x11)) = (hX11 a o S) ++ ((wX0 cy a (o + 1) (gX11_now S)) ++ (([] : va_W) ++ ((wX5 cy a (o + 54) x11) ++ (wX8 cy a (o + 268) (gX11_text S))))) from by simp only [wX11, List.append_assoc, List.nil_append, List.append_nil] <;> rfl)) rfl rfl rfl hl.1 rfl (Nat.le_of_ble_eq_true rfl) dX11_withdraw_70 ⟨Nat.zero_le _, Nat.zero_le _⟩ (fun H locs hP hD hS => ?_)
    obtain ⟨S13, eS14, h⟩ := lt_elim h
    have hP : va_P D vwCl (wX11 cy a o S13) H := by rw [eS14]; exact hP
    have hD : va_D (va_A (wX11 cy a o S) s.heap.size) (wX11 cy a o S13) := by rw [eS14]; exact hD
    refine lv_aload_n hx hb dX11_withdraw_73 rfl (lv_at hl 0 rfl) ?_
    refine va_get (D := D) (ci := 11) (v := .ref (a (o + 1))) (C := RX11) (T := TX11) (N := 3) hx hb hts hinX11 hown hK hP 0 rfl rfl 0 (by decide) hf10 (fun _ h9 => h9) rfl dX11_withdraw_74 ?_
    refine lv_iload_n hx hb dX11_withdraw_77 rfl (lv_at hl 1 rfl) ?_
    obtain ⟨x15, e16, h⟩ := bd_some h
    refine smVv (As := [.int p1]) (rest := []) (ws' := (wX11 cy a o (uX11_now S13 x15))) (q0 := 0) (qX0_letGo l D cy a (o + 1) (gX11_now S13) p1 (H).size x15 e16) ⟨hx, hb, hml, hown, hts⟩ (cwV 1 hts gX11_withdraw_X0_letGo rfl rfl rfl (by decide +kernel) ⟨Nat.le_of_ble_eq_true rfl, Nat.le_of_ble_eq_true rfl⟩) hG hP hD hS hA (pm1 (X := (hX11 a o S13)) (c := (wX0 cy a (o + 1) (gX11_now S13))) (Y := ((wX5 cy a (o + 54) (gX11_records S13)) ++ (wX8 cy a (o + 268) (gX11_text S13)))) (show (wX11 cy a o S13) = (hX11 a o S13) ++ ((wX0 cy a (o + 1) (gX11_now S13)) ++ ((wX5 cy a (o + 54) (gX11_records S13)) ++ (wX8 cy a (o + 268) (gX11_text S13)))) from by simp only [wX11, List.append_assoc, List.nil_append, List.append_nil] <;> rfl)) (pm1 (X := (hX11 a o S13)) (c := (wX0 cy a (o + 1) x15)) (Y := ((wX5 cy a (o + 54) (gX11_records S13)) ++ (wX8 cy a (o + 268) (gX11_text S13)))) (show (wX11 cy a o (uX11_now S13 x15)) = (hX11 a o S13) ++ ((wX0 cy a (o + 1) x15) ++ ((wX5 cy a (o + 54) (gX11_records S13)) ++ (wX8 cy a (o + 268) (gX11_text S13)))) from by simp only [wX11, List.append_assoc, List.nil_append, List.append_nil] <;> rfl)) rfl rfl rfl hl.1 rfl (Nat.le_of_ble_eq_true rfl) dX11_withdraw_78 ⟨Nat.zero_le _, Nat.zero_le _⟩ (fun H locs hP hD hS => ?_)
    obtain ⟨S17, eS18, h⟩ := lt_elim h
    have hP : va_P D vwCl (wX11 cy a o S17) H := by rw [eS18]; exact hP
    have hD : va_D (va_A (wX11 cy a o S) s.heap.size) (wX11 cy a o S17) := by rw [eS18]; exact hD
    refine lv_aload_n hx hb dX11_withdraw_81 rfl (lv_at hl 0 rfl) ?_
    refine va_get (D := D) (ci := 11) (v := .ref (a (o + 1))) (C := RX11) (T := TX11) (N := 3) hx hb hts hinX11 hown hK hP 0 rfl rfl 0 (by decide) hf10 (fun _ h9 => h9) rfl dX11_withdraw_82 ?_
    refine va_getN (D := D) (ci := 0) (v := .ref (a (o + 1 + 5))) (C := RX0) (T := TX0) (N := 14) hx hb hts hinX0 hown hK hP 1 rfl rfl 5 (by decide) hf73 (fun _ h9 => h9) rfl dX11_withdraw_85 ?_
    obtain ⟨x19, e20, h⟩ := bd_some h
    refine pcV (As := []) (rest := []) (q0 := 0) (qX2_countIn l D cy a (o + 1 + 5) (gX0_entrants (gX11_now S17))  x19 e20) ⟨hx, hb, hml, hown, hts⟩ (cwV 0 hts gX11_withdraw_X2_countIn rfl rfl rfl (by decide +kernel) ⟨Nat.le_of_ble_eq_true rfl, Nat.le_of_ble_eq_true rfl⟩) hG (P_seg (X := ((hX11 a o S17) ++ ((hX0 a (o + 1) (gX11_now S17)) ++ (wX10 cy a (o + 1 + 1) (gX0_works (gX11_now S17)))))) (c := (wX2 cy a (o + 1 + 5) (gX0_entrants (gX11_now S17)))) (Y := ((rowsW (cy 2) (cy 0) a (o + 1 + 7) 4 6 (gX0_rules (gX11_now S17))) ++ ((wX4 cy a (o + 1 + 12) (gX0_programs (gX11_now S17))) ++ ((wX3 cy a (o + 1 + 14) (gX0_jury (gX11_now S17))) ++ ((wX7 cy a (o + 1 + 23) (gX0_stage (gX11_now S17))) ++ ((wX6 cy a (o + 1 + 26) (gX0_sheet (gX11_now S17))) ++ ((wX9 cy a (o + 1 + 35) (gX0_tie (gX11_now S17))) ++ ((rowsW (cy 2) (cy 0) a (o + 1 + 46) 4 12 (gX0_closedScores (gX11_now S17))) ++ ((wX1 cy a (o + 1 + 51) (gX0_cut (gX11_now S17))) ++ ((wX5 cy a (o + 54) (gX11_records S17)) ++ (wX8 cy a (o + 268) (gX11_text S17)))))))))))) hP (by simp only [wX0, wX11, List.append_assoc, List.nil_append, List.append_nil] <;> rfl)) rfl rfl rfl hl.1 rfl (Nat.le_of_ble_eq_true rfl) dX11_withdraw_88 ⟨Nat.zero_le _, Nat.zero_le _⟩ ?_
    refine vx_ret (W.widen (k := cX rs) (n := sX rs) (Nat.zero_le _) (Nat.zero_le _) ?_)
    exact W.iret (v := x19) hx hb hr (fun t ht hW => ⟨⟨x19, S17, rfl, some_in h, by rw [ht]; exact hP, hD⟩, hS.F ht⟩) hS.2.2 dX11_withdraw_91
  obtain ⟨j21, hj21, h⟩ := jn_elim h
  have Jj21 : ∀ (ls : Array Slot), j21 () = some rs → lv_has ls 2 [(0, .ref (a o)), (1, .int p1)] → W p l e (headSpec wsX11_withdraw ({ frames := 8, cells := cX rs, slots := sX rs, locals := 206 } : Room)).room s m ([.ref (a o), .int p1] : List Value).toArray below meth c H locs 0 0 (vx_MQ below (va_Qi (fun r (u : SX11) => Sum.inr (r, u) = rs) (fun u t => mB D s.heap.size (wX11 cy a o S) (wX11 cy a o u) t) (va_A (wX11 cy a o S) s.heap.size)) (xC D s.heap.size (wX11 cy a o S) rs) ([.ref (a o), .int p1] : List Value).toArray s (cX rs) (sX rs) (va_A (wX11 cy a o S) s.heap.size)) (F0 m 54 ls []) := by
    intro ls h hl
    rw [hj21] at h
    refine lv_iconst (v := (1 : Int32)) hx hb dX11_withdraw_54 (by decide) ?_
    refine lv_goto (tgt := 59) hx hb dX11_withdraw_55 (by decide) ?_
    exact Jj8 (1 : Int32) ls h (lv_sub hl [0, 1] rfl)
  refine lv_if_eq (tgt := 54) hx hb dX11_withdraw_26 (by decide) (fun cc => ?_) (fun cc => ?_)
  · have h := ite_p cc h
    exact Jj21  ls h (lv_sub hl [0, 1] rfl)
  · have h := ite_n cc h
    refine lv_aload_n hx hb dX11_withdraw_29 rfl (lv_at hl 0 rfl) ?_
    refine va_get (D := D) (ci := 11) (v := .ref (a (o + 1))) (C := RX11) (T := TX11) (N := 3) hx hb hts hinX11 hown hK hP 0 rfl rfl 0 (by decide) hf10 (fun _ h9 => h9) rfl dX11_withdraw_30 ?_
    refine va_getN (D := D) (ci := 0) (v := .int (gX0_state (gX11_now S))) (C := RX0) (T := TX0) (N := 14) hx hb hts hinX0 hown hK hP 1 rfl rfl 0 (by decide) hf38 (fun _ h9 => h9) rfl dX11_withdraw_33 ?_
    refine lv_iconst (v := (1 : Int32)) hx hb dX11_withdraw_36 (by decide) ?_
    obtain ⟨j22, hj22, h⟩ := jn_elim h
    have Jj22 : ∀ (ls : Array Slot), j22 () = some rs → lv_has ls 2 [(0, .ref (a o)), (1, .int p1)] → W p l e (headSpec wsX11_withdraw ({ frames := 8, cells := cX rs, slots := sX rs, locals := 206 } : Room)).room s m ([.ref (a o), .int p1] : List Value).toArray below meth c H locs 0 0 (vx_MQ below (va_Qi (fun r (u : SX11) => Sum.inr (r, u) = rs) (fun u t => mB D s.heap.size (wX11 cy a o S) (wX11 cy a o u) t) (va_A (wX11 cy a o S) s.heap.size)) (xC D s.heap.size (wX11 cy a o S) rs) ([.ref (a o), .int p1] : List Value).toArray s (cX rs) (sX rs) (va_A (wX11 cy a o S) s.heap.size)) (F0 m 58 ls []) := by
      intro ls h hl
      rw [hj22] at h
      refine lv_iconst (v := (0 : Int32)) hx hb dX11_withdraw_58 (by decide) ?_
      exact Jj8 (0 : Int32) ls h (lv_sub hl [0, 1] rfl)
    refine lv_icmp_ne (tgt := 58) hx hb dX11_withdraw_37 (by decide) (fun cc => ?_) (fun cc => ?_)
    · have h := ite_n cc h
      exact Jj22  ls h (lv_sub hl [0, 1] rfl)
    · have h := ite_p cc h
      refine lv_aload_n hx hb dX11_withdraw_40 rfl (lv_at hl 0 rfl) ?_
      refine va_get (D := D) (ci := 11) (v := .ref (a (o + 1))) (C := RX11) (T := TX11) (N := 3) hx hb hts hinX11 hown hK hP 0 rfl rfl 0 (by decide) hf10 (fun _ h9 => h9) rfl dX11_withdraw_41 ?_
      refine va_getN (D := D) (ci := 0) (v := .ref (a (o + 1 + 23))) (C := RX0) (T := TX0) (N := 14) hx hb hts hinX0 hown hK hP 1 rfl rfl 9 (by decide) hf164 (fun _ h9 => h9) rfl dX11_withdraw_44 ?_
      refine lv_iload_n hx hb dX11_withdraw_47 rfl (lv_at hl 1 rfl) ?_
      obtain ⟨x23, e24, h⟩ := bd_some h
      refine pcV (As := [.int p1]) (rest := []) (q0 := 0) (qX7_hasPlayed l D cy a (o + 1 + 23) (gX0_stage (gX11_now S)) p1 x23 e24) ⟨hx, hb, hml, hown, hts⟩ (cwV 1 hts gX11_withdraw_X7_hasPlayed rfl rfl rfl (by decide +kernel) ⟨Nat.le_of_ble_eq_true rfl, Nat.le_of_ble_eq_true rfl⟩) hG (P_seg (X := ((hX11 a o S) ++ ((hX0 a (o + 1) (gX11_now S)) ++ ((wX10 cy a (o + 1 + 1) (gX0_works (gX11_now S))) ++ ((wX2 cy a (o + 1 + 5) (gX0_entrants (gX11_now S))) ++ ((rowsW (cy 2) (cy 0) a (o + 1 + 7) 4 6 (gX0_rules (gX11_now S))) ++ ((wX4 cy a (o + 1 + 12) (gX0_programs (gX11_now S))) ++ (wX3 cy a (o + 1 + 14) (gX0_jury (gX11_now S)))))))))) (c := (wX7 cy a (o + 1 + 23) (gX0_stage (gX11_now S)))) (Y := ((wX6 cy a (o + 1 + 26) (gX0_sheet (gX11_now S))) ++ ((wX9 cy a (o + 1 + 35) (gX0_tie (gX11_now S))) ++ ((rowsW (cy 2) (cy 0) a (o + 1 + 46) 4 12 (gX0_closedScores (gX11_now S))) ++ ((wX1 cy a (o + 1 + 51) (gX0_cut (gX11_now S))) ++ ((wX5 cy a (o + 54) (gX11_records S)) ++ (wX8 cy a (o + 268) (gX11_text S)))))))) hP (by simp only [wX0, wX11, List.append_assoc, List.nil_append, List.append_nil] <;> rfl)) rfl rfl rfl hl.1 rfl (Nat.le_of_ble_eq_true rfl) dX11_withdraw_48 ⟨Nat.zero_le _, Nat.zero_le _⟩ ?_
      refine lv_if_ne (tgt := 58) hx hb dX11_withdraw_51 (by decide) (fun cc => ?_) (fun cc => ?_)
      · have h := ite_n cc h
        exact Jj22  ls h (lv_sub hl [0, 1] rfl)
      · have h := ite_p cc h
        exact Jj21  ls h (lv_sub hl [0, 1] rfl)
set_option maxHeartbeats 4000000 in
set_option maxRecDepth 100000 in
theorem qX11_info (l : Launch) (hl9 : l.stackTraces = false) (D : va_G) (cy : Nat → ClassId) (tt : Nat → Nat) (a : Nat → Nat) (o : Nat) (S : SX11n) (p1 : Int32) (sz : Nat) (rs : Nat ⊕ (Int32)) (h : DX11_info S p1 = some rs) : vx_Met l yX11_info wsX11_info ({ frames := 7, cells := cX rs, slots := sX rs, locals := 120 } : Room) (xP D cy tt sz [.ref (a o), .int p1] (wX11n cy a o S)) (va_Qi (fun r (_ : Unit) => Sum.inr r = rs) (fun _ t => mB D sz (wX11n cy a o S) (wX11n cy a o S) t) (va_A (wX11n cy a o S) sz)) (xC D sz (wX11n cy a o S) rs) (cX rs) (sX rs) (va_A (wX11n cy a o S) sz) := by
  refine vx_ofW (cc := cX11_info) (maxL := 2) (ret := (some .int)) (by decide) rfl ?_
  intro p e s m args below meth c s₁ B hml htab hv
  obtain ⟨rfl, hsz, hP, hG, hD0, hX⟩ := hv
  have hx := B.exec
  have hb := B.bytes
  have hr := B.returns
  have hts := atoms_spec (ws := wsX11_info) B.pre
  have hown : s.vm.findClass RX11 = some m.cls := findClass_of_methodNamed B.named
  have hlocks := B.notSynchronized
  have hK := hG.1
  subst hsz
  have hD := hD0.self (sz := s.heap.size)
  have hA : ∀ q : Nat, s.heap.size ≤ q → (va_A (wX11n cy a o S) s.heap.size) q := fun q h => Or.inr h
  have hS : va_S (va_A (wX11n cy a o S) s.heap.size) s.heap s.heap [] := va_S.rf
  have hinX11 := (by decide +kernel : ∀ w ∈ wsX110, w ∈ wsX11_info)
  have hf10 := hts (.fieldLink RX11 10 "PianoRounds" "now" "LPianoRounds$Competition;") (by decide +kernel)
  have hl := lv_entry ([.ref (a o), .int p1]) (n := 2) (Nat.le_of_ble_eq_true rfl)
  rw [lg_entry_eq]
  generalize (lg_sl ([.ref (a o), .int p1]) ++ List.replicate (2 - (lg_sl ([.ref (a o), .int p1])).length) Slot.unset).toArray = ls at hl ⊢
  have hl : lv_has ls 2 [(0, .ref (a o)), (1, .int p1)] := hl
  rw [DX11_info] at h
  refine lv_iload_n hx hb dX11_info_0 rfl (lv_at hl 1 rfl) ?_
  refine lv_iconst (v := (0 : Int32)) hx hb dX11_info_1 (by decide) ?_
  refine lv_bipush (v := (12 : Int32)) hx hb dX11_info_2 (by decide) ?_
  obtain ⟨x1, e2, h⟩ := bd_some h
  refine pcS (As := [.int p1, .int (0 : Int32), .int (12 : Int32)]) (rest := []) (qX11_isBetween l D cy  p1 (0 : Int32) (12 : Int32) x1 e2) ⟨hx, hb, hml, hown, hts⟩ (va_cwS 3 hts gX11_info_X11_isBetween rfl rfl rfl (by decide +kernel) ⟨Nat.le_of_ble_eq_true rfl, Nat.le_of_ble_eq_true rfl⟩) hG (hP.sub [] rfl) rfl hl.1 rfl (Nat.le_of_ble_eq_true rfl) dX11_info_4 ⟨Nat.zero_le _, Nat.zero_le _⟩ ?_
  rcases tx_some h with ⟨k9, e9, h⟩ | ⟨x3, e4, h⟩
  · refine tcT (fun st v t q => by obtain ⟨⟨u, -, hu, -⟩, -⟩ := q; cases hu) hG hX hP hD hS hA (pm0 (wX11n cy a o S)) (fun h1 h2 => vx_runS (As := [.int x1]) (rest := []) ⟨hx, hb, hml, hown, hts⟩ (qX11_requireArgument l hl9 D cy tt  x1 (s.heap).size (Sum.inl k9) e9) (va_cwS 1 hts gX11_info_X11_requireArgument rfl rfl rfl (by decide +kernel) ⟨Nat.le_of_ble_eq_true rfl, Nat.le_of_ble_eq_true rfl⟩) ⟨h1, h2⟩ rfl rfl hl.1 rfl (lv_room (Nat.le_of_ble_eq_true rfl)) dX11_info_7 ⟨(by rw [← h]; exact Nat.le_refl 1), (by rw [← h]; exact Nat.le_refl 6)⟩) (fun ce q9 H locs hP hS hce hcv hcl => ?_)
    exact vx_out (fun x hx9 => (htab x hx9).elim) hlocks hce hcv hcl (fun t ht hvm => xThrow rfl h hP hD hS (by rw [ht]; exact Nat.le_refl _) (fun q _ => by rw [ht])) hS.2.2 (by rw [← h]; exact Nat.le_refl 1) (by rw [← h]; exact Nat.le_refl 6)
  refine tcNv hG hX hP hD hS hA (pm0 (wX11n cy a o S)) (fun h1 h2 => vx_runS (As := [.int x1]) (rest := []) ⟨hx, hb, hml, hown, hts⟩ (qX11_requireArgument l hl9 D cy tt  x1 (s.heap).size (Sum.inr x3) e4) (va_cwS 1 hts gX11_info_X11_requireArgument rfl rfl rfl (by decide +kernel) ⟨Nat.le_of_ble_eq_true rfl, Nat.le_of_ble_eq_true rfl⟩) ⟨h1, h2⟩ rfl rfl hl.1 rfl (lv_room (Nat.le_of_ble_eq_true rfl)) dX11_info_7 ⟨Nat.zero_le _, Nat.zero_le _⟩) (c2 := 0) (s2 := 0) rfl rfl (fun H locs hP hS => ?_)
  refine lv_aload_n hx hb dX11_info_10 rfl (lv_at hl 0 rfl) ?_
  refine va_get (D := D) (ci := 11) (v := .ref (a (o + 1))) (C := RX11) (T := TX11) (N := 3) hx hb hts hinX11 hown hK hP 0 rfl rfl 0 (by decide) hf10 (fun _ h9 => h9) rfl dX11_info_11 ?_
  refine lv_iload_n hx hb dX11_info_14 rfl (lv_at hl 1 rfl) ?_
  obtain ⟨x5, e6, h⟩ := bd_some h
  refine pcV (As := [.int p1]) (rest := []) (q0 := 0) (qX0_tell l D cy a (o + 1) (gX11n_now S) p1 x5 e6) ⟨hx, hb, hml, hown, hts⟩ (cwV 1 hts gX11_info_X0_tell rfl rfl rfl (by decide +kernel) ⟨Nat.le_of_ble_eq_true rfl, Nat.le_of_ble_eq_true rfl⟩) hG (P_seg (X := (hX11n a o S)) (c := (wX0 cy a (o + 1) (gX11n_now S))) (Y := ([] : va_W)) hP (by simp only [wX11n, List.append_assoc, List.nil_append, List.append_nil] <;> rfl)) rfl rfl rfl hl.1 rfl (Nat.le_of_ble_eq_true rfl) dX11_info_15 ⟨Nat.zero_le _, Nat.zero_le _⟩ ?_
  refine vx_ret (W.widen (k := cX rs) (n := sX rs) (Nat.zero_le _) (Nat.zero_le _) ?_)
  exact W.iret (v := x5) hx hb hr (fun t ht hW => ⟨⟨x5, (), rfl, some_in h, by rw [ht]; exact hP, hD⟩, hS.F ht⟩) hS.2.2 dX11_info_18
set_option maxHeartbeats 4000000 in
set_option maxRecDepth 100000 in
theorem qX11_entrant (l : Launch) (hl9 : l.stackTraces = false) (D : va_G) (cy : Nat → ClassId) (tt : Nat → Nat) (a : Nat → Nat) (o : Nat) (S : SX11n) (p1 : Int32) (p2 : Int32) (sz : Nat) (rs : Nat ⊕ (Int32)) (h : DX11_entrant S p1 p2 = some rs) : vx_Met l yX11_entrant wsX11_entrant ({ frames := 8, cells := cX rs, slots := sX rs, locals := 141 } : Room) (xP D cy tt sz [.ref (a o), .int p1, .int p2] (wX11n cy a o S)) (va_Qi (fun r (_ : Unit) => Sum.inr r = rs) (fun _ t => mB D sz (wX11n cy a o S) (wX11n cy a o S) t) (va_A (wX11n cy a o S) sz)) (xC D sz (wX11n cy a o S) rs) (cX rs) (sX rs) (va_A (wX11n cy a o S) sz) := by
  refine vx_ofW (cc := cX11_entrant) (maxL := 3) (ret := (some .int)) (by decide) rfl ?_
  intro p e s m args below meth c s₁ B hml htab hv
  obtain ⟨rfl, hsz, hP, hG, hD0, hX⟩ := hv
  have hx := B.exec
  have hb := B.bytes
  have hr := B.returns
  have hts := atoms_spec (ws := wsX11_entrant) B.pre
  have hown : s.vm.findClass RX11 = some m.cls := findClass_of_methodNamed B.named
  have hlocks := B.notSynchronized
  have hK := hG.1
  subst hsz
  have hD := hD0.self (sz := s.heap.size)
  have hA : ∀ q : Nat, s.heap.size ≤ q → (va_A (wX11n cy a o S) s.heap.size) q := fun q h => Or.inr h
  have hS : va_S (va_A (wX11n cy a o S) s.heap.size) s.heap s.heap [] := va_S.rf
  have hinX11 := (by decide +kernel : ∀ w ∈ wsX110, w ∈ wsX11_entrant)
  have hf10 := hts (.fieldLink RX11 10 "PianoRounds" "now" "LPianoRounds$Competition;") (by decide +kernel)
  have hl := lv_entry ([.ref (a o), .int p1, .int p2]) (n := 3) (Nat.le_of_ble_eq_true rfl)
  rw [lg_entry_eq]
  generalize (lg_sl ([.ref (a o), .int p1, .int p2]) ++ List.replicate (3 - (lg_sl ([.ref (a o), .int p1, .int p2])).length) Slot.unset).toArray = ls at hl ⊢
  have hl : lv_has ls 3 [(0, .ref (a o)), (1, .int p1), (2, .int p2)] := hl
  rw [DX11_entrant] at h
  refine lv_aload_n hx hb dX11_entrant_0 rfl (lv_at hl 0 rfl) ?_
  refine lv_iload_n hx hb dX11_entrant_1 rfl (lv_at hl 1 rfl) ?_
  rcases tx_some h with ⟨k9, e9, h⟩ | ⟨x1, e2, h⟩
  · refine tcT (fun st v t q => by obtain ⟨⟨u, -, hu, -⟩, -⟩ := q; cases hu) hG hX hP hD hS hA (pm1 (X := ([] : va_W)) (c := (wX11n cy a o S)) (Y := ([] : va_W)) (show (wX11n cy a o S) = ([] : va_W) ++ ((wX11n cy a o S) ++ ([] : va_W)) from by simp only [List.append_assoc, List.nil_append, List.append_nil] <;> rfl)) (fun h1 h2 => vx_runV (As := [.int p1]) (rest := []) ⟨hx, hb, hml, hown, hts⟩ (qX11_requireEntrant l hl9 D cy tt a o S p1 (s.heap).size (Sum.inl k9) e9) (cwV 1 hts gX11_entrant_X11_requireEntrant rfl rfl rfl (by decide +kernel) ⟨Nat.le_of_ble_eq_true rfl, Nat.le_of_ble_eq_true rfl⟩) ⟨h1, va_recv hK hP (ci := 11) (q0 := 0) rfl rfl, h2⟩ rfl rfl hl.1 rfl (lv_room (Nat.le_of_ble_eq_true rfl)) dX11_entrant_2 ⟨(by rw [← h]; exact Nat.le_refl 1), (by rw [← h]; exact Nat.le_refl 6)⟩) (fun ce q9 H locs hP hS hce hcv hcl => ?_)
    exact vx_out (fun x hx9 => (htab x hx9).elim) hlocks hce hcv hcl (fun t ht hvm => xThrow rfl h hP hD hS (by rw [ht]; exact Nat.le_refl _) (fun q _ => by rw [ht])) hS.2.2 (by rw [← h]; exact Nat.le_refl 1) (by rw [← h]; exact Nat.le_refl 6)
  refine tcNv hG hX hP hD hS hA (pm1 (X := ([] : va_W)) (c := (wX11n cy a o S)) (Y := ([] : va_W)) (show (wX11n cy a o S) = ([] : va_W) ++ ((wX11n cy a o S) ++ ([] : va_W)) from by simp only [List.append_assoc, List.nil_append, List.append_nil] <;> rfl)) (fun h1 h2 => vx_runV (As := [.int p1]) (rest := []) ⟨hx, hb, hml, hown, hts⟩ (qX11_requireEntrant l hl9 D cy tt a o S p1 (s.heap).size (Sum.inr x1) e2) (cwV 1 hts gX11_entrant_X11_requireEntrant rfl rfl rfl (by decide +kernel) ⟨Nat.le_of_ble_eq_true rfl, Nat.le_of_ble_eq_true rfl⟩) ⟨h1, va_recv hK hP (ci := 11) (q0 := 0) rfl rfl, h2⟩ rfl rfl hl.1 rfl (lv_room (Nat.le_of_ble_eq_true rfl)) dX11_entrant_2 ⟨Nat.zero_le _, Nat.zero_le _⟩) (c2 := 0) (s2 := 0) rfl rfl (fun H locs hP hS => ?_)
  refine lv_iload_n hx hb dX11_entrant_5 rfl (lv_at hl 2 rfl) ?_
  refine lv_iconst (v := (0 : Int32)) hx hb dX11_entrant_6 (by decide) ?_
  refine lv_bipush (v := (7 : Int32)) hx hb dX11_entrant_7 (by decide) ?_
  obtain ⟨x3, e4, h⟩ := bd_some h
  refine pcS (As := [.int p2, .int (0 : Int32), .int (7 : Int32)]) (rest := []) (qX11_isBetween l D cy  p2 (0 : Int32) (7 : Int32) x3 e4) ⟨hx, hb, hml, hown, hts⟩ (va_cwS 3 hts gX11_entrant_X11_isBetween rfl rfl rfl (by decide +kernel) ⟨Nat.le_of_ble_eq_true rfl, Nat.le_of_ble_eq_true rfl⟩) hG (hP.sub [] rfl) rfl hl.1 rfl (Nat.le_of_ble_eq_true rfl) dX11_entrant_9 ⟨Nat.zero_le _, Nat.zero_le _⟩ ?_
  rcases tx_some h with ⟨k9, e9, h⟩ | ⟨x5, e6, h⟩
  · refine tcT (fun st v t q => by obtain ⟨⟨u, -, hu, -⟩, -⟩ := q; cases hu) hG hX hP hD hS hA (pm0 (wX11n cy a o S)) (fun h1 h2 => vx_runS (As := [.int x3]) (rest := []) ⟨hx, hb, hml, hown, hts⟩ (qX11_requireArgument l hl9 D cy tt  x3 (H).size (Sum.inl k9) e9) (va_cwS 1 hts gX11_entrant_X11_requireArgument rfl rfl rfl (by decide +kernel) ⟨Nat.le_of_ble_eq_true rfl, Nat.le_of_ble_eq_true rfl⟩) ⟨h1, h2⟩ rfl rfl hl.1 rfl (lv_room (Nat.le_of_ble_eq_true rfl)) dX11_entrant_12 ⟨(by rw [← h]; exact Nat.le_refl 1), (by rw [← h]; exact Nat.le_refl 6)⟩) (fun ce q9 H locs hP hS hce hcv hcl => ?_)
    exact vx_out (fun x hx9 => (htab x hx9).elim) hlocks hce hcv hcl (fun t ht hvm => xThrow rfl h hP hD hS (by rw [ht]; exact Nat.le_refl _) (fun q _ => by rw [ht])) hS.2.2 (by rw [← h]; exact Nat.le_refl 1) (by rw [← h]; exact Nat.le_refl 6)
  refine tcNv hG hX hP hD hS hA (pm0 (wX11n cy a o S)) (fun h1 h2 => vx_runS (As := [.int x3]) (rest := []) ⟨hx, hb, hml, hown, hts⟩ (qX11_requireArgument l hl9 D cy tt  x3 (H).size (Sum.inr x5) e6) (va_cwS 1 hts gX11_entrant_X11_requireArgument rfl rfl rfl (by decide +kernel) ⟨Nat.le_of_ble_eq_true rfl, Nat.le_of_ble_eq_true rfl⟩) ⟨h1, h2⟩ rfl rfl hl.1 rfl (lv_room (Nat.le_of_ble_eq_true rfl)) dX11_entrant_12 ⟨Nat.zero_le _, Nat.zero_le _⟩) (c2 := 0) (s2 := 0) rfl rfl (fun H locs hP hS => ?_)
  refine lv_aload_n hx hb dX11_entrant_15 rfl (lv_at hl 0 rfl) ?_
  refine va_get (D := D) (ci := 11) (v := .ref (a (o + 1))) (C := RX11) (T := TX11) (N := 3) hx hb hts hinX11 hown hK hP 0 rfl rfl 0 (by decide) hf10 (fun _ h9 => h9) rfl dX11_entrant_16 ?_
  refine lv_iload_n hx hb dX11_entrant_19 rfl (lv_at hl 1 rfl) ?_
  refine lv_iload_n hx hb dX11_entrant_20 rfl (lv_at hl 2 rfl) ?_
  obtain ⟨x7, e8, h⟩ := bd_some h
  refine pcV (As := [.int p1, .int p2]) (rest := []) (q0 := 0) (qX0_tellOfEntrant l D cy a (o + 1) (gX11n_now S) p1 p2 x7 e8) ⟨hx, hb, hml, hown, hts⟩ (cwV 2 hts gX11_entrant_X0_tellOfEntrant rfl rfl rfl (by decide +kernel) ⟨Nat.le_of_ble_eq_true rfl, Nat.le_of_ble_eq_true rfl⟩) hG (P_seg (X := (hX11n a o S)) (c := (wX0 cy a (o + 1) (gX11n_now S))) (Y := ([] : va_W)) hP (by simp only [wX11n, List.append_assoc, List.nil_append, List.append_nil] <;> rfl)) rfl rfl rfl hl.1 rfl (Nat.le_of_ble_eq_true rfl) dX11_entrant_21 ⟨Nat.zero_le _, Nat.zero_le _⟩ ?_
  refine vx_ret (W.widen (k := cX rs) (n := sX rs) (Nat.zero_le _) (Nat.zero_le _) ?_)
  exact W.iret (v := x7) hx hb hr (fun t ht hW => ⟨⟨x7, (), rfl, some_in h, by rw [ht]; exact hP, hD⟩, hS.F ht⟩) hS.2.2 dX11_entrant_24
set_option maxHeartbeats 4000000 in
set_option maxRecDepth 100000 in
theorem qX11_marked (l : Launch) (hl9 : l.stackTraces = false) (D : va_G) (cy : Nat → ClassId) (tt : Nat → Nat) (a : Nat → Nat) (o : Nat) (S : SX11n) (p1 : Int32) (p2 : Int32) (p3 : Int32) (sz : Nat) (rs : Nat ⊕ (Int32)) (h : DX11_marked S p1 p2 p3 = some rs) : vx_Met l yX11_marked wsX11_marked ({ frames := 9, cells := cX rs, slots := sX rs, locals := 163 } : Room) (xP D cy tt sz [.ref (a o), .int p1, .int p2, .int p3] (wX11n cy a o S)) (va_Qi (fun r (_ : Unit) => Sum.inr r = rs) (fun _ t => mB D sz (wX11n cy a o S) (wX11n cy a o S) t) (va_A (wX11n cy a o S) sz)) (xC D sz (wX11n cy a o S) rs) (cX rs) (sX rs) (va_A (wX11n cy a o S) sz) := by
  refine vx_ofW (cc := cX11_marked) (maxL := 4) (ret := (some .int)) (by decide) rfl ?_
  intro p e s m args below meth c s₁ B hml htab hv
  obtain ⟨rfl, hsz, hP, hG, hD0, hX⟩ := hv
  have hx := B.exec
  have hb := B.bytes
  have hr := B.returns
  have hts := atoms_spec (ws := wsX11_marked) B.pre
  have hown : s.vm.findClass RX11 = some m.cls := findClass_of_methodNamed B.named
  have hlocks := B.notSynchronized
  have hK := hG.1
  subst hsz
  have hD := hD0.self (sz := s.heap.size)
  have hA : ∀ q : Nat, s.heap.size ≤ q → (va_A (wX11n cy a o S) s.heap.size) q := fun q h => Or.inr h
  have hS : va_S (va_A (wX11n cy a o S) s.heap.size) s.heap s.heap [] := va_S.rf
  have hinX11 := (by decide +kernel : ∀ w ∈ wsX110, w ∈ wsX11_marked)
  have hf10 := hts (.fieldLink RX11 10 "PianoRounds" "now" "LPianoRounds$Competition;") (by decide +kernel)
  have hinX0 := (by decide +kernel : ∀ w ∈ wsX00, w ∈ wsX11_marked)
  have hf248 := va_Nw.use (A := ([.ref (a o), .int p1, .int p2, .int p3] : List Value).toArray) (U := s) (w := .fieldLinkNest "PianoRounds" 248 "PianoRounds$Competition" "sheet" "LPianoRounds$Sheet;" "PianoRounds") rfl (hG.2.1 _ (by decide +kernel))
  have hf235 := va_Nw.use (A := ([.ref (a o), .int p1, .int p2, .int p3] : List Value).toArray) (U := s) (w := .fieldLinkNest "PianoRounds" 235 "PianoRounds$Competition" "tie" "LPianoRounds$Tie;" "PianoRounds") rfl (hG.2.1 _ (by decide +kernel))
  have hinX9 := (by decide +kernel : ∀ w ∈ wsX90, w ∈ wsX11_marked)
  have hf239 := va_Nw.use (A := ([.ref (a o), .int p1, .int p2, .int p3] : List Value).toArray) (U := s) (w := .fieldLinkNest "PianoRounds" 239 "PianoRounds$Tie" "sheet" "LPianoRounds$Sheet;" "PianoRounds") rfl (hG.2.1 _ (by decide +kernel))
  have hl := lv_entry ([.ref (a o), .int p1, .int p2, .int p3]) (n := 4) (Nat.le_of_ble_eq_true rfl)
  rw [lg_entry_eq]
  generalize (lg_sl ([.ref (a o), .int p1, .int p2, .int p3]) ++ List.replicate (4 - (lg_sl ([.ref (a o), .int p1, .int p2, .int p3])).length) Slot.unset).toArray = ls at hl ⊢
  have hl : lv_has ls 4 [(0, .ref (a o)), (1, .int p1), (2, .int p2), (3, .int p3)] := hl
  rw [DX11_marked] at h
  refine lv_aload_n hx hb dX11_marked_0 rfl (lv_at hl 0 rfl) ?_
  refine lv_iload_n hx hb dX11_marked_1 rfl (lv_at hl 1 rfl) ?_
  refine lv_iload_n hx hb dX11_marked_2 rfl (lv_at hl 2 rfl) ?_
  rcases tx_some h with ⟨k9, e9, h⟩ | ⟨x1, e2, h⟩
  · refine tcT (fun st v t q => by obtain ⟨⟨u, -, hu, -⟩, -⟩ := q; cases hu) hG hX hP hD hS hA (pm1 (X := ([] : va_W)) (c := (wX11n cy a o S)) (Y := ([] : va_W)) (show (wX11n cy a o S) = ([] : va_W) ++ ((wX11n cy a o S) ++ ([] : va_W)) from by simp only [List.append_assoc, List.nil_append, List.append_nil] <;> rfl)) (fun h1 h2 => vx_runV (As := [.int p1, .int p2]) (rest := []) ⟨hx, hb, hml, hown, hts⟩ (qX11_requireJurorAndEntrant l hl9 D cy tt a o S p1 p2 (s.heap).size (Sum.inl k9) e9) (cwV 2 hts gX11_marked_X11_requireJurorAndEntrant rfl rfl rfl (by decide +kernel) ⟨Nat.le_of_ble_eq_true rfl, Nat.le_of_ble_eq_true rfl⟩) ⟨h1, va_recv hK hP (ci := 11) (q0 := 0) rfl rfl, h2⟩ rfl rfl hl.1 rfl (lv_room (Nat.le_of_ble_eq_true rfl)) dX11_marked_3 ⟨(by rw [← h]; exact Nat.le_refl 1), (by rw [← h]; exact Nat.le_refl 6)⟩) (fun ce q9 H locs hP hS hce hcv hcl => ?_)
    exact vx_out (fun x hx9 => (htab x hx9).elim) hlocks hce hcv hcl (fun t ht hvm => xThrow rfl h hP hD hS (by rw [ht]; exact Nat.le_refl _) (fun q _ => by rw [ht])) hS.2.2 (by rw [← h]; exact Nat.le_refl 1) (by rw [← h]; exact Nat.le_refl 6)
  refine tcNv hG hX hP hD hS hA (pm1 (X := ([] : va_W)) (c := (wX11n cy a o S)) (Y := ([] : va_W)) (show (wX11n cy a o S) = ([] : va_W) ++ ((wX11n cy a o S) ++ ([] : va_W)) from by simp only [List.append_assoc, List.nil_append, List.append_nil] <;> rfl)) (fun h1 h2 => vx_runV (As := [.int p1, .int p2]) (rest := []) ⟨hx, hb, hml, hown, hts⟩ (qX11_requireJurorAndEntrant l hl9 D cy tt a o S p1 p2 (s.heap).size (Sum.inr x1) e2) (cwV 2 hts gX11_marked_X11_requireJurorAndEntrant rfl rfl rfl (by decide +kernel) ⟨Nat.le_of_ble_eq_true rfl, Nat.le_of_ble_eq_true rfl⟩) ⟨h1, va_recv hK hP (ci := 11) (q0 := 0) rfl rfl, h2⟩ rfl rfl hl.1 rfl (lv_room (Nat.le_of_ble_eq_true rfl)) dX11_marked_3 ⟨Nat.zero_le _, Nat.zero_le _⟩) (c2 := 0) (s2 := 0) rfl rfl (fun H locs hP hS => ?_)
  refine lv_iload_n hx hb dX11_marked_6 rfl (lv_at hl 3 rfl) ?_
  obtain ⟨j4, hj4, h⟩ := jn_elim h
  have Jj4 : ∀ (x3 : Int32) (ls : Array Slot), j4 x3 = some rs → lv_has ls 4 [] → W p l e (headSpec wsX11_marked ({ frames := 9, cells := cX rs, slots := sX rs, locals := 163 } : Room)).room s m ([.ref (a o), .int p1, .int p2, .int p3] : List Value).toArray below meth c H locs 0 0 (vx_MQ below (va_Qi (fun r (_ : Unit) => Sum.inr r = rs) (fun _ t => mB D s.heap.size (wX11n cy a o S) (wX11n cy a o S) t) (va_A (wX11n cy a o S) s.heap.size)) (xC D s.heap.size (wX11n cy a o S) rs) ([.ref (a o), .int p1, .int p2, .int p3] : List Value).toArray s (cX rs) (sX rs) (va_A (wX11n cy a o S) s.heap.size)) (F0 m 40 ls [.int x3]) := by
    intro x3 ls h hl
    rw [hj4] at h
    refine vx_ret (W.widen (k := cX rs) (n := sX rs) (Nat.zero_le _) (Nat.zero_le _) ?_)
    exact W.iret (v := x3) hx hb hr (fun t ht hW => ⟨⟨x3, (), rfl, some_in h, by rw [ht]; exact hP, hD⟩, hS.F ht⟩) hS.2.2 dX11_marked_40
  refine lv_if_eq (tgt := 28) hx hb dX11_marked_7 (by decide) (fun cc => ?_) (fun cc => ?_)
  · have h := ite_p cc h
    refine lv_aload_n hx hb dX11_marked_28 rfl (lv_at hl 0 rfl) ?_
    refine va_get (D := D) (ci := 11) (v := .ref (a (o + 1))) (C := RX11) (T := TX11) (N := 3) hx hb hts hinX11 hown hK hP 0 rfl rfl 0 (by decide) hf10 (fun _ h9 => h9) rfl dX11_marked_29 ?_
    refine va_getN (D := D) (ci := 0) (v := .ref (a (o + 1 + 26))) (C := RX0) (T := TX0) (N := 14) hx hb hts hinX0 hown hK hP 1 rfl rfl 10 (by decide) hf248 (fun _ h9 => h9) rfl dX11_marked_32 ?_
    refine lv_iload_n hx hb dX11_marked_35 rfl (lv_at hl 1 rfl) ?_
    refine lv_iload_n hx hb dX11_marked_36 rfl (lv_at hl 2 rfl) ?_
    obtain ⟨x5, e6, h⟩ := bd_some h
    refine pcV (As := [.int p1, .int p2]) (rest := []) (q0 := 0) (qX6_at l D cy a (o + 1 + 26) (gX0_sheet (gX11n_now S)) p1 p2 x5 e6) ⟨hx, hb, hml, hown, hts⟩ (cwV 2 hts gX11_marked_X6_at rfl rfl rfl (by decide +kernel) ⟨Nat.le_of_ble_eq_true rfl, Nat.le_of_ble_eq_true rfl⟩) hG (P_seg (X := ((hX11n a o S) ++ ((hX0 a (o + 1) (gX11n_now S)) ++ ((wX10 cy a (o + 1 + 1) (gX0_works (gX11n_now S))) ++ ((wX2 cy a (o + 1 + 5) (gX0_entrants (gX11n_now S))) ++ ((rowsW (cy 2) (cy 0) a (o + 1 + 7) 4 6 (gX0_rules (gX11n_now S))) ++ ((wX4 cy a (o + 1 + 12) (gX0_programs (gX11n_now S))) ++ ((wX3 cy a (o + 1 + 14) (gX0_jury (gX11n_now S))) ++ (wX7 cy a (o + 1 + 23) (gX0_stage (gX11n_now S))))))))))) (c := (wX6 cy a (o + 1 + 26) (gX0_sheet (gX11n_now S)))) (Y := ((wX9 cy a (o + 1 + 35) (gX0_tie (gX11n_now S))) ++ ((rowsW (cy 2) (cy 0) a (o + 1 + 46) 4 12 (gX0_closedScores (gX11n_now S))) ++ (wX1 cy a (o + 1 + 51) (gX0_cut (gX11n_now S)))))) hP (by simp only [wX0, wX11n, List.append_assoc, List.nil_append, List.append_nil] <;> rfl)) rfl rfl rfl hl.1 rfl (Nat.le_of_ble_eq_true rfl) dX11_marked_37 ⟨Nat.zero_le _, Nat.zero_le _⟩ ?_
    exact Jj4 x5 ls h (lv_sub hl [] rfl)
  · have h := ite_n cc h
    refine lv_aload_n hx hb dX11_marked_10 rfl (lv_at hl 0 rfl) ?_
    refine va_get (D := D) (ci := 11) (v := .ref (a (o + 1))) (C := RX11) (T := TX11) (N := 3) hx hb hts hinX11 hown hK hP 0 rfl rfl 0 (by decide) hf10 (fun _ h9 => h9) rfl dX11_marked_11 ?_
    refine va_getN (D := D) (ci := 0) (v := .ref (a (o + 1 + 35))) (C := RX0) (T := TX0) (N := 14) hx hb hts hinX0 hown hK hP 1 rfl rfl 11 (by decide) hf235 (fun _ h9 => h9) rfl dX11_marked_14 ?_
    refine va_getN (D := D) (ci := 9) (v := .ref (a (o + 1 + 35 + 2))) (C := RX9) (T := TX9) (N := 4) hx hb hts hinX9 hown hK hP 36 rfl rfl 3 (by decide) hf239 (fun _ h9 => h9) rfl dX11_marked_17 ?_
    refine lv_iload_n hx hb dX11_marked_20 rfl (lv_at hl 1 rfl) ?_
    refine lv_iload_n hx hb dX11_marked_21 rfl (lv_at hl 2 rfl) ?_
    obtain ⟨x7, e8, h⟩ := bd_some h
    refine pcV (As := [.int p1, .int p2]) (rest := []) (q0 := 0) (qX6_at l D cy a (o + 1 + 35 + 2) (gX9_sheet (gX0_tie (gX11n_now S))) p1 p2 x7 e8) ⟨hx, hb, hml, hown, hts⟩ (cwV 2 hts gX11_marked_X6_at rfl rfl rfl (by decide +kernel) ⟨Nat.le_of_ble_eq_true rfl, Nat.le_of_ble_eq_true rfl⟩) hG (P_seg (X := ((hX11n a o S) ++ ((hX0 a (o + 1) (gX11n_now S)) ++ ((wX10 cy a (o + 1 + 1) (gX0_works (gX11n_now S))) ++ ((wX2 cy a (o + 1 + 5) (gX0_entrants (gX11n_now S))) ++ ((rowsW (cy 2) (cy 0) a (o + 1 + 7) 4 6 (gX0_rules (gX11n_now S))) ++ ((wX4 cy a (o + 1 + 12) (gX0_programs (gX11n_now S))) ++ ((wX3 cy a (o + 1 + 14) (gX0_jury (gX11n_now S))) ++ ((wX7 cy a (o + 1 + 23) (gX0_stage (gX11n_now S))) ++ ((wX6 cy a (o + 1 + 26) (gX0_sheet (gX11n_now S))) ++ ((hX9 a (o + 1 + 35) (gX0_tie (gX11n_now S))) ++ (aW cy a (o + 1 + 35 + 1) 12 (gX9_tied (gX0_tie (gX11n_now S))))))))))))))) (c := (wX6 cy a (o + 1 + 35 + 2) (gX9_sheet (gX0_tie (gX11n_now S))))) (Y := ((rowsW (cy 2) (cy 0) a (o + 1 + 46) 4 12 (gX0_closedScores (gX11n_now S))) ++ (wX1 cy a (o + 1 + 51) (gX0_cut (gX11n_now S))))) hP (by simp only [wX0, wX11n, wX9, List.append_assoc, List.nil_append, List.append_nil] <;> rfl)) rfl rfl rfl hl.1 rfl (Nat.le_of_ble_eq_true rfl) dX11_marked_22 ⟨Nat.zero_le _, Nat.zero_le _⟩ ?_
    refine lv_goto (tgt := 40) hx hb dX11_marked_25 (by decide) ?_
    exact Jj4 x7 ls h (lv_sub hl [] rfl)
set_option maxHeartbeats 4000000 in
set_option maxRecDepth 100000 in
theorem qX11_history (l : Launch) (hl9 : l.stackTraces = false) (D : va_G) (cy : Nat → ClassId) (tt : Nat → Nat) (a : Nat → Nat) (o : Nat) (S : SX11n) (p1 : Int32) (p2 : Int32) (sz : Nat) (rs : Nat ⊕ (Int32)) (h : DX11_history S p1 p2 = some rs) : vx_Met l yX11_history wsX11_history ({ frames := 9, cells := cX rs, slots := sX rs, locals := 163 } : Room) (xP D cy tt sz [.ref (a o), .int p1, .int p2] (wX11n cy a o S)) (va_Qi (fun r (_ : Unit) => Sum.inr r = rs) (fun _ t => mB D sz (wX11n cy a o S) (wX11n cy a o S) t) (va_A (wX11n cy a o S) sz)) (xC D sz (wX11n cy a o S) rs) (cX rs) (sX rs) (va_A (wX11n cy a o S) sz) := by
  refine vx_ofW (cc := cX11_history) (maxL := 3) (ret := (some .int)) (by decide) rfl ?_
  intro p e s m args below meth c s₁ B hml htab hv
  obtain ⟨rfl, hsz, hP, hG, hD0, hX⟩ := hv
  have hx := B.exec
  have hb := B.bytes
  have hr := B.returns
  have hts := atoms_spec (ws := wsX11_history) B.pre
  have hown : s.vm.findClass RX11 = some m.cls := findClass_of_methodNamed B.named
  have hlocks := B.notSynchronized
  have hK := hG.1
  subst hsz
  have hD := hD0.self (sz := s.heap.size)
  have hA : ∀ q : Nat, s.heap.size ≤ q → (va_A (wX11n cy a o S) s.heap.size) q := fun q h => Or.inr h
  have hS : va_S (va_A (wX11n cy a o S) s.heap.size) s.heap s.heap [] := va_S.rf
  have hinX11 := (by decide +kernel : ∀ w ∈ wsX110, w ∈ wsX11_history)
  have hf10 := hts (.fieldLink RX11 10 "PianoRounds" "now" "LPianoRounds$Competition;") (by decide +kernel)
  have hinX0 := (by decide +kernel : ∀ w ∈ wsX00, w ∈ wsX11_history)
  have hf249 := va_Nw.use (A := ([.ref (a o), .int p1, .int p2] : List Value).toArray) (U := s) (w := .fieldLinkNest "PianoRounds" 249 "PianoRounds$Competition" "closedScores" "[[I" "PianoRounds") rfl (hG.2.1 _ (by decide +kernel))
  have hl := lv_entry ([.ref (a o), .int p1, .int p2]) (n := 3) (Nat.le_of_ble_eq_true rfl)
  rw [lg_entry_eq]
  generalize (lg_sl ([.ref (a o), .int p1, .int p2]) ++ List.replicate (3 - (lg_sl ([.ref (a o), .int p1, .int p2])).length) Slot.unset).toArray = ls at hl ⊢
  have hl : lv_has ls 3 [(0, .ref (a o)), (1, .int p1), (2, .int p2)] := hl
  rw [DX11_history] at h
  refine lv_aload_n hx hb dX11_history_0 rfl (lv_at hl 0 rfl) ?_
  refine lv_iload_n hx hb dX11_history_1 rfl (lv_at hl 1 rfl) ?_
  refine lv_iload_n hx hb dX11_history_2 rfl (lv_at hl 2 rfl) ?_
  rcases tx_some h with ⟨k9, e9, h⟩ | ⟨x1, e2, h⟩
  · refine tcT (fun st v t q => by obtain ⟨⟨u, -, hu, -⟩, -⟩ := q; cases hu) hG hX hP hD hS hA (pm1 (X := ([] : va_W)) (c := (wX11n cy a o S)) (Y := ([] : va_W)) (show (wX11n cy a o S) = ([] : va_W) ++ ((wX11n cy a o S) ++ ([] : va_W)) from by simp only [List.append_assoc, List.nil_append, List.append_nil] <;> rfl)) (fun h1 h2 => vx_runV (As := [.int p1, .int p2]) (rest := []) ⟨hx, hb, hml, hown, hts⟩ (qX11_requireEntrantAndRound l hl9 D cy tt a o S p1 p2 (s.heap).size (Sum.inl k9) e9) (cwV 2 hts gX11_history_X11_requireEntrantAndRound rfl rfl rfl (by decide +kernel) ⟨Nat.le_of_ble_eq_true rfl, Nat.le_of_ble_eq_true rfl⟩) ⟨h1, va_recv hK hP (ci := 11) (q0 := 0) rfl rfl, h2⟩ rfl rfl hl.1 rfl (lv_room (Nat.le_of_ble_eq_true rfl)) dX11_history_3 ⟨(by rw [← h]; exact Nat.le_refl 1), (by rw [← h]; exact Nat.le_refl 6)⟩) (fun ce q9 H locs hP hS hce hcv hcl => ?_)
    exact vx_out (fun x hx9 => (htab x hx9).elim) hlocks hce hcv hcl (fun t ht hvm => xThrow rfl h hP hD hS (by rw [ht]; exact Nat.le_refl _) (fun q _ => by rw [ht])) hS.2.2 (by rw [← h]; exact Nat.le_refl 1) (by rw [← h]; exact Nat.le_refl 6)
  refine tcNv hG hX hP hD hS hA (pm1 (X := ([] : va_W)) (c := (wX11n cy a o S)) (Y := ([] : va_W)) (show (wX11n cy a o S) = ([] : va_W) ++ ((wX11n cy a o S) ++ ([] : va_W)) from by simp only [List.append_assoc, List.nil_append, List.append_nil] <;> rfl)) (fun h1 h2 => vx_runV (As := [.int p1, .int p2]) (rest := []) ⟨hx, hb, hml, hown, hts⟩ (qX11_requireEntrantAndRound l hl9 D cy tt a o S p1 p2 (s.heap).size (Sum.inr x1) e2) (cwV 2 hts gX11_history_X11_requireEntrantAndRound rfl rfl rfl (by decide +kernel) ⟨Nat.le_of_ble_eq_true rfl, Nat.le_of_ble_eq_true rfl⟩) ⟨h1, va_recv hK hP (ci := 11) (q0 := 0) rfl rfl, h2⟩ rfl rfl hl.1 rfl (lv_room (Nat.le_of_ble_eq_true rfl)) dX11_history_3 ⟨Nat.zero_le _, Nat.zero_le _⟩) (c2 := 0) (s2 := 0) rfl rfl (fun H locs hP hS => ?_)
  refine lv_aload_n hx hb dX11_history_6 rfl (lv_at hl 0 rfl) ?_
  refine va_get (D := D) (ci := 11) (v := .ref (a (o + 1))) (C := RX11) (T := TX11) (N := 3) hx hb hts hinX11 hown hK hP 0 rfl rfl 0 (by decide) hf10 (fun _ h9 => h9) rfl dX11_history_7 ?_
  refine va_getN (D := D) (ci := 0) (v := .ref (a (o + 1 + 46))) (C := RX0) (T := TX0) (N := 14) hx hb hts hinX0 hown hK hP 1 rfl rfl 12 (by decide) hf249 (fun _ h9 => h9) rfl dX11_history_10 ?_
  refine lv_iload_n hx hb dX11_history_13 rfl (lv_at hl 2 rfl) ?_
  obtain ⟨g3, h⟩ := gd_some h
  refine r_aldR (n := 4) (o := o + 1 + 46) (ad := a) (j := (p2).toNatClampNeg) hx hb hK hP 47 2 rfl rfl (gIn_in g3) rfl dX11_history_14 ?_
  refine lv_iload_n hx hb dX11_history_15 rfl (lv_at hl 1 rfl) ?_
  obtain ⟨g4, h⟩ := gd_some h
  refine r_ald (f := ((gX0_closedScores (gX11n_now S)) ((p2).toNatClampNeg))) (n := 12) (v := (((gX0_closedScores (gX11n_now S)) ((p2).toNatClampNeg)) ((p1).toNatClampNeg))) hx hb hK hP (47 + 1 + ((p2).toNatClampNeg)) 0 (all4 (P := fun j => (wX11n cy a o S)[47 + 1 + j]? = some (a (o + 1 + 46 + 1 + j), .inl (cy 0, 12, .inl ((gX0_closedScores (gX11n_now S)) j)))) rfl rfl rfl rfl _ (gIn_lt g3)) rfl (gIn_in g4) rfl dX11_history_16 ?_
  refine vx_ret (W.widen (k := cX rs) (n := sX rs) (Nat.zero_le _) (Nat.zero_le _) ?_)
  exact W.iret (v := (((gX0_closedScores (gX11n_now S)) ((p2).toNatClampNeg)) ((p1).toNatClampNeg))) hx hb hr (fun t ht hW => ⟨⟨(((gX0_closedScores (gX11n_now S)) ((p2).toNatClampNeg)) ((p1).toNatClampNeg)), (), rfl, some_in h, by rw [ht]; exact hP, hD⟩, hS.F ht⟩) hS.2.2 dX11_history_17
set_option maxHeartbeats 4000000 in
set_option maxRecDepth 100000 in
theorem qX11_stage (l : Launch) (D : va_G) (cy : Nat → ClassId) (a : Nat → Nat) (o : Nat) (S : SX11n) (p1 : Int32) (rs : Int32) (h : DX11_stage S p1 = some rs) : Met l yX11_stage wsX11_stage ({ frames := 1, cells := 0, slots := 0, locals := 21 } : Room) (va_Pc [.ref (a o), .int p1] (fun U => va_P D vwCl (wX11n cy a o S) U.heap ∧ gK D cy U)) (vp_Si (fun z => z = rs)) 0 0 (fun _ => False) := by
  refine Met.ofW (cc := cX11_stage) (maxL := 2) (ret := (some .int)) (by decide) rfl ?_
  intro p e s m args below meth c s₁ B hml hv
  obtain ⟨rfl, hP, hG⟩ := hv
  have hx := B.exec
  have hb := B.bytes
  have hr := B.returns
  have hts := atoms_spec (ws := wsX11_stage) B.pre
  have hown : s.vm.findClass RX11 = some m.cls := findClass_of_methodNamed B.named
  have hlocks := B.notSynchronized
  have hK := hG.1
  have hinX11 := (by decide +kernel : ∀ w ∈ wsX110, w ∈ wsX11_stage)
  have hf10 := hts (.fieldLink RX11 10 "PianoRounds" "now" "LPianoRounds$Competition;") (by decide +kernel)
  have hinX0 := (by decide +kernel : ∀ w ∈ wsX00, w ∈ wsX11_stage)
  have hf164 := va_Nw.use (A := ([.ref (a o), .int p1] : List Value).toArray) (U := s) (w := .fieldLinkNest "PianoRounds" 164 "PianoRounds$Competition" "stage" "LPianoRounds$Stage;" "PianoRounds") rfl (hG.2.1 _ (by decide +kernel))
  have hl := lv_entry ([.ref (a o), .int p1]) (n := 2) (Nat.le_of_ble_eq_true rfl)
  rw [lg_entry_eq]
  generalize (lg_sl ([.ref (a o), .int p1]) ++ List.replicate (2 - (lg_sl ([.ref (a o), .int p1])).length) Slot.unset).toArray = ls at hl ⊢
  have hl : lv_has ls 2 [(0, .ref (a o)), (1, .int p1)] := hl
  rw [DX11_stage] at h
  refine lv_aload_n hx hb dX11_stage_0 rfl (lv_at hl 0 rfl) ?_
  refine va_get (D := D) (ci := 11) (v := .ref (a (o + 1))) (C := RX11) (T := TX11) (N := 3) hx hb hts hinX11 hown hK hP 0 rfl rfl 0 (by decide) hf10 (fun _ h9 => h9) rfl dX11_stage_1 ?_
  refine va_getN (D := D) (ci := 0) (v := .ref (a (o + 1 + 23))) (C := RX0) (T := TX0) (N := 14) hx hb hts hinX0 hown hK hP 1 rfl rfl 9 (by decide) hf164 (fun _ h9 => h9) rfl dX11_stage_4 ?_
  refine lv_iload_n hx hb dX11_stage_7 rfl (lv_at hl 1 rfl) ?_
  obtain ⟨x1, e2, h⟩ := bd_some h
  refine pcV (As := [.int p1]) (rest := []) (q0 := 0) (qX7_playerAt l D cy a (o + 1 + 23) (gX0_stage (gX11n_now S)) p1 x1 e2) ⟨hx, hb, hml, hown, hts⟩ (cwV 1 hts gX11_stage_X7_playerAt rfl rfl rfl (by decide +kernel) ⟨Nat.le_of_ble_eq_true rfl, Nat.le_of_ble_eq_true rfl⟩) hG (P_seg (X := ((hX11n a o S) ++ ((hX0 a (o + 1) (gX11n_now S)) ++ ((wX10 cy a (o + 1 + 1) (gX0_works (gX11n_now S))) ++ ((wX2 cy a (o + 1 + 5) (gX0_entrants (gX11n_now S))) ++ ((rowsW (cy 2) (cy 0) a (o + 1 + 7) 4 6 (gX0_rules (gX11n_now S))) ++ ((wX4 cy a (o + 1 + 12) (gX0_programs (gX11n_now S))) ++ (wX3 cy a (o + 1 + 14) (gX0_jury (gX11n_now S)))))))))) (c := (wX7 cy a (o + 1 + 23) (gX0_stage (gX11n_now S)))) (Y := ((wX6 cy a (o + 1 + 26) (gX0_sheet (gX11n_now S))) ++ ((wX9 cy a (o + 1 + 35) (gX0_tie (gX11n_now S))) ++ ((rowsW (cy 2) (cy 0) a (o + 1 + 46) 4 12 (gX0_closedScores (gX11n_now S))) ++ (wX1 cy a (o + 1 + 51) (gX0_cut (gX11n_now S))))))) hP (by simp only [wX0, wX11n, List.append_assoc, List.nil_append, List.append_nil] <;> rfl)) rfl rfl rfl hl.1 rfl (Nat.le_of_ble_eq_true rfl) dX11_stage_8 ⟨Nat.zero_le _, Nat.zero_le _⟩ ?_
  exact W.iret (v := x1) hx hb hr (fun t ht hW => ⟨x1, rfl, some_in h, ht⟩) (fun q hq => nomatch hq) dX11_stage_11
set_option maxHeartbeats 4000000 in
set_option maxRecDepth 100000 in
theorem qX11_wouldBe (l : Launch) (hl9 : l.stackTraces = false) (D : va_G) (cy : Nat → ClassId) (tt : Nat → Nat) (a : Nat → Nat) (o : Nat) (S : SX11n) (p1 : Int32) (sz : Nat) (rs : Nat ⊕ (Int32 × SX11n)) (h : DX11_wouldBe S p1 = some rs) : vx_Met l yX11_wouldBe wsX11_wouldBe ({ frames := 7, cells := cX rs, slots := sX rs, locals := 127 } : Room) (xP D cy tt sz [.ref (a o), .int p1] (wX11n cy a o S)) (va_Qi (fun r (u : SX11n) => Sum.inr (r, u) = rs) (fun u t => mB D sz (wX11n cy a o S) (wX11n cy a o u) t) (va_A (wX11n cy a o S) sz)) (xC D sz (wX11n cy a o S) rs) (cX rs) (sX rs) (va_A (wX11n cy a o S) sz) := by
  refine vx_ofW (cc := cX11_wouldBe) (maxL := 2) (ret := (some .int)) (by decide) rfl ?_
  intro p e s m args below meth c s₁ B hml htab hv
  obtain ⟨rfl, hsz, hP, hG, hD0, hX⟩ := hv
  have hx := B.exec
  have hb := B.bytes
  have hr := B.returns
  have hts := atoms_spec (ws := wsX11_wouldBe) B.pre
  have hown : s.vm.findClass RX11 = some m.cls := findClass_of_methodNamed B.named
  have hlocks := B.notSynchronized
  have hK := hG.1
  subst hsz
  have hD := hD0.self (sz := s.heap.size)
  have hA : ∀ q : Nat, s.heap.size ≤ q → (va_A (wX11n cy a o S) s.heap.size) q := fun q h => Or.inr h
  have hS : va_S (va_A (wX11n cy a o S) s.heap.size) s.heap s.heap [] := va_S.rf
  have hinX11 := (by decide +kernel : ∀ w ∈ wsX110, w ∈ wsX11_wouldBe)
  have hf10 := hts (.fieldLink RX11 10 "PianoRounds" "now" "LPianoRounds$Competition;") (by decide +kernel)
  have hinX0 := (by decide +kernel : ∀ w ∈ wsX00, w ∈ wsX11_wouldBe)
  have hf38 := va_Nw.use (A := ([.ref (a o), .int p1] : List Value).toArray) (U := s) (w := .fieldLinkNest "PianoRounds" 38 "PianoRounds$Competition" "state" "I" "PianoRounds") rfl (hG.2.1 _ (by decide +kernel))
  have hf258 := va_Nw.use (A := ([.ref (a o), .int p1] : List Value).toArray) (U := s) (w := .fieldLinkNest "PianoRounds" 258 "PianoRounds$Competition" "cut" "LPianoRounds$Cut;" "PianoRounds") rfl (hG.2.1 _ (by decide +kernel))
  have hl := lv_entry ([.ref (a o), .int p1]) (n := 2) (Nat.le_of_ble_eq_true rfl)
  rw [lg_entry_eq]
  generalize (lg_sl ([.ref (a o), .int p1]) ++ List.replicate (2 - (lg_sl ([.ref (a o), .int p1])).length) Slot.unset).toArray = ls at hl ⊢
  have hl : lv_has ls 2 [(0, .ref (a o)), (1, .int p1)] := hl
  rw [DX11_wouldBe] at h
  refine lv_iload_n hx hb dX11_wouldBe_0 rfl (lv_at hl 1 rfl) ?_
  refine lv_iconst (v := (0 : Int32)) hx hb dX11_wouldBe_1 (by decide) ?_
  refine lv_iconst (v := (2 : Int32)) hx hb dX11_wouldBe_2 (by decide) ?_
  obtain ⟨x1, e2, h⟩ := bd_some h
  refine pcS (As := [.int p1, .int (0 : Int32), .int (2 : Int32)]) (rest := []) (qX11_isBetween l D cy  p1 (0 : Int32) (2 : Int32) x1 e2) ⟨hx, hb, hml, hown, hts⟩ (va_cwS 3 hts gX11_wouldBe_X11_isBetween rfl rfl rfl (by decide +kernel) ⟨Nat.le_of_ble_eq_true rfl, Nat.le_of_ble_eq_true rfl⟩) hG (hP.sub [] rfl) rfl hl.1 rfl (Nat.le_of_ble_eq_true rfl) dX11_wouldBe_3 ⟨Nat.zero_le _, Nat.zero_le _⟩ ?_
  rcases tx_some h with ⟨k9, e9, h⟩ | ⟨x3, e4, h⟩
  · refine tcT (fun st v t q => by obtain ⟨⟨u, -, hu, -⟩, -⟩ := q; cases hu) hG hX hP hD hS hA (pm0 (wX11n cy a o S)) (fun h1 h2 => vx_runS (As := [.int x1]) (rest := []) ⟨hx, hb, hml, hown, hts⟩ (qX11_requireArgument l hl9 D cy tt  x1 (s.heap).size (Sum.inl k9) e9) (va_cwS 1 hts gX11_wouldBe_X11_requireArgument rfl rfl rfl (by decide +kernel) ⟨Nat.le_of_ble_eq_true rfl, Nat.le_of_ble_eq_true rfl⟩) ⟨h1, h2⟩ rfl rfl hl.1 rfl (lv_room (Nat.le_of_ble_eq_true rfl)) dX11_wouldBe_6 ⟨(by rw [← h]; exact Nat.le_refl 1), (by rw [← h]; exact Nat.le_refl 6)⟩) (fun ce q9 H locs hP hS hce hcv hcl => ?_)
    exact vx_out (fun x hx9 => (htab x hx9).elim) hlocks hce hcv hcl (fun t ht hvm => xThrow rfl h hP hD hS (by rw [ht]; exact Nat.le_refl _) (fun q _ => by rw [ht])) hS.2.2 (by rw [← h]; exact Nat.le_refl 1) (by rw [← h]; exact Nat.le_refl 6)
  refine tcNv hG hX hP hD hS hA (pm0 (wX11n cy a o S)) (fun h1 h2 => vx_runS (As := [.int x1]) (rest := []) ⟨hx, hb, hml, hown, hts⟩ (qX11_requireArgument l hl9 D cy tt  x1 (s.heap).size (Sum.inr x3) e4) (va_cwS 1 hts gX11_wouldBe_X11_requireArgument rfl rfl rfl (by decide +kernel) ⟨Nat.le_of_ble_eq_true rfl, Nat.le_of_ble_eq_true rfl⟩) ⟨h1, h2⟩ rfl rfl hl.1 rfl (lv_room (Nat.le_of_ble_eq_true rfl)) dX11_wouldBe_6 ⟨Nat.zero_le _, Nat.zero_le _⟩) (c2 := 0) (s2 := 0) rfl rfl (fun H locs hP hS => ?_)
  refine lv_aload_n hx hb dX11_wouldBe_9 rfl (lv_at hl 0 rfl) ?_
  refine va_get (D := D) (ci := 11) (v := .ref (a (o + 1))) (C := RX11) (T := TX11) (N := 3) hx hb hts hinX11 hown hK hP 0 rfl rfl 0 (by decide) hf10 (fun _ h9 => h9) rfl dX11_wouldBe_10 ?_
  refine va_getN (D := D) (ci := 0) (v := .int (gX0_state (gX11n_now S))) (C := RX0) (T := TX0) (N := 14) hx hb hts hinX0 hown hK hP 1 rfl rfl 0 (by decide) hf38 (fun _ h9 => h9) rfl dX11_wouldBe_13 ?_
  refine lv_iconst (v := (1 : Int32)) hx hb dX11_wouldBe_16 (by decide) ?_
  obtain ⟨j5, hj5, h⟩ := jn_elim h
  have Jj5 : ∀ (ls : Array Slot), j5 () = some rs → lv_has ls 2 [] → W p l e (headSpec wsX11_wouldBe ({ frames := 7, cells := cX rs, slots := sX rs, locals := 127 } : Room)).room s m ([.ref (a o), .int p1] : List Value).toArray below meth c H locs 0 0 (vx_MQ below (va_Qi (fun r (u : SX11n) => Sum.inr (r, u) = rs) (fun u t => mB D s.heap.size (wX11n cy a o S) (wX11n cy a o u) t) (va_A (wX11n cy a o S) s.heap.size)) (xC D s.heap.size (wX11n cy a o S) rs) ([.ref (a o), .int p1] : List Value).toArray s (cX rs) (sX rs) (va_A (wX11n cy a o S) s.heap.size)) (F0 m 30 ls []) := by
    intro ls h hl
    rw [hj5] at h
    refine lv_iconst (v := (-1 : Int32)) hx hb dX11_wouldBe_30 (by decide) ?_
    refine vx_ret (W.widen (k := cX rs) (n := sX rs) (Nat.zero_le _) (Nat.zero_le _) ?_)
    exact W.iret (v := (-1 : Int32)) hx hb hr (fun t ht hW => ⟨⟨(-1 : Int32), S, rfl, some_in h, by rw [ht]; exact hP, hD⟩, hS.F ht⟩) hS.2.2 dX11_wouldBe_31
  refine lv_icmp_ne (tgt := 30) hx hb dX11_wouldBe_17 (by decide) (fun cc => ?_) (fun cc => ?_)
  · have h := ite_n cc h
    exact Jj5  ls h (lv_sub hl [] rfl)
  · have h := ite_p cc h
    refine lv_aload_n hx hb dX11_wouldBe_20 rfl (lv_at hl 0 rfl) ?_
    refine va_get (D := D) (ci := 11) (v := .ref (a (o + 1))) (C := RX11) (T := TX11) (N := 3) hx hb hts hinX11 hown hK hP 0 rfl rfl 0 (by decide) hf10 (fun _ h9 => h9) rfl dX11_wouldBe_21 ?_
    obtain ⟨x6, e7, h⟩ := bd_some h
    refine pcV (As := []) (rest := []) (q0 := 0) (qX0_canBeClosed l D cy a (o + 1) (gX11n_now S)  x6 e7) ⟨hx, hb, hml, hown, hts⟩ (cwV 0 hts gX11_wouldBe_X0_canBeClosed rfl rfl rfl (by decide +kernel) ⟨Nat.le_of_ble_eq_true rfl, Nat.le_of_ble_eq_true rfl⟩) hG (P_seg (X := (hX11n a o S)) (c := (wX0 cy a (o + 1) (gX11n_now S))) (Y := ([] : va_W)) hP (by simp only [wX11n, List.append_assoc, List.nil_append, List.append_nil] <;> rfl)) rfl rfl rfl hl.1 rfl (Nat.le_of_ble_eq_true rfl) dX11_wouldBe_24 ⟨Nat.zero_le _, Nat.zero_le _⟩ ?_
    refine lv_if_ne (tgt := 32) hx hb dX11_wouldBe_27 (by decide) (fun cc => ?_) (fun cc => ?_)
    · have h := ite_n cc h
      refine lv_aload_n hx hb dX11_wouldBe_32 rfl (lv_at hl 0 rfl) ?_
      refine va_get (D := D) (ci := 11) (v := .ref (a (o + 1))) (C := RX11) (T := TX11) (N := 3) hx hb hts hinX11 hown hK hP 0 rfl rfl 0 (by decide) hf10 (fun _ h9 => h9) rfl dX11_wouldBe_33 ?_
      obtain ⟨x8, e9, h⟩ := bd_some h
      refine smVv (As := []) (rest := []) (ws' := (wX11n cy a o (uX11n_now S x8))) (q0 := 0) (qX0_judgeRound l D cy a (o + 1) (gX11n_now S)  (H).size x8 e9) ⟨hx, hb, hml, hown, hts⟩ (cwV 0 hts gX11_wouldBe_X0_judgeRound rfl rfl rfl (by decide +kernel) ⟨Nat.le_of_ble_eq_true rfl, Nat.le_of_ble_eq_true rfl⟩) hG hP hD hS hA (pm1 (X := (hX11n a o S)) (c := (wX0 cy a (o + 1) (gX11n_now S))) (Y := ([] : va_W)) (show (wX11n cy a o S) = (hX11n a o S) ++ ((wX0 cy a (o + 1) (gX11n_now S)) ++ ([] : va_W)) from by simp only [wX11n, List.append_assoc, List.nil_append, List.append_nil] <;> rfl)) (pm1 (X := (hX11n a o S)) (c := (wX0 cy a (o + 1) x8)) (Y := ([] : va_W)) (show (wX11n cy a o (uX11n_now S x8)) = (hX11n a o S) ++ ((wX0 cy a (o + 1) x8) ++ ([] : va_W)) from by simp only [wX11n, List.append_assoc, List.nil_append, List.append_nil] <;> rfl)) rfl rfl rfl hl.1 rfl (Nat.le_of_ble_eq_true rfl) dX11_wouldBe_36 ⟨Nat.zero_le _, Nat.zero_le _⟩ (fun H locs hP hD hS => ?_)
      obtain ⟨S10, eS11, h⟩ := lt_elim h
      have hP : va_P D vwCl (wX11n cy a o S10) H := by rw [eS11]; exact hP
      have hD : va_D (va_A (wX11n cy a o S) s.heap.size) (wX11n cy a o S10) := by rw [eS11]; exact hD
      refine lv_aload_n hx hb dX11_wouldBe_39 rfl (lv_at hl 0 rfl) ?_
      refine va_get (D := D) (ci := 11) (v := .ref (a (o + 1))) (C := RX11) (T := TX11) (N := 3) hx hb hts hinX11 hown hK hP 0 rfl rfl 0 (by decide) hf10 (fun _ h9 => h9) rfl dX11_wouldBe_40 ?_
      refine va_getN (D := D) (ci := 0) (v := .ref (a (o + 1 + 51))) (C := RX0) (T := TX0) (N := 14) hx hb hts hinX0 hown hK hP 1 rfl rfl 13 (by decide) hf258 (fun _ h9 => h9) rfl dX11_wouldBe_43 ?_
      refine lv_iload_n hx hb dX11_wouldBe_46 rfl (lv_at hl 1 rfl) ?_
      obtain ⟨x12, e13, h⟩ := bd_some h
      refine pcV (As := [.int p1]) (rest := []) (q0 := 0) (qX1_countOf l D cy a (o + 1 + 51) (gX0_cut (gX11n_now S10)) p1 x12 e13) ⟨hx, hb, hml, hown, hts⟩ (cwV 1 hts gX11_wouldBe_X1_countOf rfl rfl rfl (by decide +kernel) ⟨Nat.le_of_ble_eq_true rfl, Nat.le_of_ble_eq_true rfl⟩) hG (P_seg (X := ((hX11n a o S10) ++ ((hX0 a (o + 1) (gX11n_now S10)) ++ ((wX10 cy a (o + 1 + 1) (gX0_works (gX11n_now S10))) ++ ((wX2 cy a (o + 1 + 5) (gX0_entrants (gX11n_now S10))) ++ ((rowsW (cy 2) (cy 0) a (o + 1 + 7) 4 6 (gX0_rules (gX11n_now S10))) ++ ((wX4 cy a (o + 1 + 12) (gX0_programs (gX11n_now S10))) ++ ((wX3 cy a (o + 1 + 14) (gX0_jury (gX11n_now S10))) ++ ((wX7 cy a (o + 1 + 23) (gX0_stage (gX11n_now S10))) ++ ((wX6 cy a (o + 1 + 26) (gX0_sheet (gX11n_now S10))) ++ ((wX9 cy a (o + 1 + 35) (gX0_tie (gX11n_now S10))) ++ (rowsW (cy 2) (cy 0) a (o + 1 + 46) 4 12 (gX0_closedScores (gX11n_now S10)))))))))))))) (c := (wX1 cy a (o + 1 + 51) (gX0_cut (gX11n_now S10)))) (Y := ([] : va_W)) hP (by simp only [wX0, wX11n, List.append_assoc, List.nil_append, List.append_nil] <;> rfl)) rfl rfl rfl hl.1 rfl (Nat.le_of_ble_eq_true rfl) dX11_wouldBe_47 ⟨Nat.zero_le _, Nat.zero_le _⟩ ?_
      refine vx_ret (W.widen (k := cX rs) (n := sX rs) (Nat.zero_le _) (Nat.zero_le _) ?_)
      exact W.iret (v := x12) hx hb hr (fun t ht hW => ⟨⟨x12, S10, rfl, some_in h, by rw [ht]; exact hP, hD⟩, hS.F ht⟩) hS.2.2 dX11_wouldBe_50
    · have h := ite_p cc h
      exact Jj5  ls h (lv_sub hl [] rfl)
