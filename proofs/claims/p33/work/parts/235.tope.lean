set_option maxHeartbeats 4000000 in
set_option maxRecDepth 100000 in
theorem qX11_enter (l : Launch) (hl9 : l.stackTraces = false) (D : va_G) (cy : Nat → ClassId) (tt : Nat → Nat) (a : Nat → Nat) (o : Nat) (S : SX11) (p1 : Int32) (p2 : Int32) (p3 : Int32) (sz : Nat) (rs : Nat ⊕ (Int32 × SX11)) (h : DX11_enter S p1 p2 p3 = some rs) : vx_Met l yX11_enter wsX11_enter ({ frames := 7, cells := cX rs, slots := sX rs, locals := 206 } : Room) (xP D cy tt sz [.ref (a o), .int p1, .int p2, .int p3] (wX11 cy a o S)) (va_Qi (fun r (u : SX11) => Sum.inr (r, u) = rs) (fun u t => mB D sz (wX11 cy a o S) (wX11 cy a o u) t) (va_A (wX11 cy a o S) sz)) (xC D sz (wX11 cy a o S) rs) (cX rs) (sX rs) (va_A (wX11 cy a o S) sz) := by
  refine vx_ofW (cc := cX11_enter) (maxL := 4) (ret := (some .int)) (by decide) rfl ?_
  intro p e s m args below meth c s₁ B hml htab hv
  obtain ⟨rfl, hsz, hP, hG, hD0, hX⟩ := hv
  have hx := B.exec
  have hb := B.bytes
  have hr := B.returns
  have hts := atoms_spec (ws := wsX11_enter) B.pre
  have hown : s.vm.findClass RX11 = some m.cls := findClass_of_methodNamed B.named
  have hlocks := B.notSynchronized
  have hK := hG.1
  subst hsz
  have hD := hD0.self (sz := s.heap.size)
  have hA : ∀ q : Nat, s.heap.size ≤ q → (va_A (wX11 cy a o S) s.heap.size) q := fun q h => Or.inr h
  have hS : va_S (va_A (wX11 cy a o S) s.heap.size) s.heap s.heap [] := va_S.rf
  have hinX11 := (by decide +kernel : ∀ w ∈ wsX110, w ∈ wsX11_enter)
  have hf10 := hts (.fieldLink RX11 10 "PianoRounds" "now" "LPianoRounds$Competition;") (by decide +kernel)
  have hf19 := hts (.fieldLink RX11 19 "PianoRounds" "records" "LPianoRounds$Records;") (by decide +kernel)
  have hinX0 := (by decide +kernel : ∀ w ∈ wsX00, w ∈ wsX11_enter)
  have hf87 := va_Nw.use (A := ([.ref (a o), .int p1, .int p2, .int p3] : List Value).toArray) (U := s) (w := .fieldLinkNest "PianoRounds" 87 "PianoRounds$Competition" "jury" "LPianoRounds$Jury;" "PianoRounds") rfl (hG.2.1 _ (by decide +kernel))
  have hl := lv_entry ([.ref (a o), .int p1, .int p2, .int p3]) (n := 4) (Nat.le_of_ble_eq_true rfl)
  rw [lg_entry_eq]
  generalize (lg_sl ([.ref (a o), .int p1, .int p2, .int p3]) ++ List.replicate (4 - (lg_sl ([.ref (a o), .int p1, .int p2, .int p3])).length) Slot.unset).toArray = ls at hl ⊢
  have hl : lv_has ls 4 [(0, .ref (a o)), (1, .int p1), (2, .int p2), (3, .int p3)] := hl
  rw [DX11_enter] at h
  refine lv_aload_n hx hb dX11_enter_0 rfl (lv_at hl 0 rfl) ?_
  refine va_get (D := D) (ci := 11) (v := .ref (a (o + 1))) (C := RX11) (T := TX11) (N := 3) hx hb hts hinX11 hown hK hP 0 rfl rfl 0 (by decide) hf10 (fun _ h9 => h9) rfl dX11_enter_1 ?_
  refine lv_iload_n hx hb dX11_enter_4 rfl (lv_at hl 2 rfl) ?_
  obtain ⟨x1, e2, h⟩ := bd_some h
  refine pcV (As := [.int p2]) (rest := []) (q0 := 0) (qX0_canBeMarked l D cy a (o + 1) (gX11_now S) p2 x1 e2) ⟨hx, hb, hml, hown, hts⟩ (cwV 1 hts gX11_enter_X0_canBeMarked rfl rfl rfl (by decide +kernel) ⟨Nat.le_of_ble_eq_true rfl, Nat.le_of_ble_eq_true rfl⟩) hG (P_seg (X := (hX11 a o S)) (c := (wX0 cy a (o + 1) (gX11_now S))) (Y := ((wX5 cy a (o + 54) (gX11_records S)) ++ (wX8 cy a (o + 268) (gX11_text S)))) hP (by simp only [wX11, List.append_assoc, List.nil_append, List.append_nil] <;> rfl)) rfl rfl rfl hl.1 rfl (Nat.le_of_ble_eq_true rfl) dX11_enter_5 ⟨Nat.zero_le _, Nat.zero_le _⟩ ?_
  obtain ⟨j4, hj4, h⟩ := jn_elim h
  have Jj4 : ∀ (x3 : Int32) (ls : Array Slot), j4 x3 = some rs → lv_has ls 4 [(0, .ref (a o)), (1, .int p1), (2, .int p2), (3, .int p3)] → W p l e (headSpec wsX11_enter ({ frames := 7, cells := cX rs, slots := sX rs, locals := 206 } : Room)).room s m ([.ref (a o), .int p1, .int p2, .int p3] : List Value).toArray below meth c s.heap [] 0 0 (vx_MQ below (va_Qi (fun r (u : SX11) => Sum.inr (r, u) = rs) (fun u t => mB D s.heap.size (wX11 cy a o S) (wX11 cy a o u) t) (va_A (wX11 cy a o S) s.heap.size)) (xC D s.heap.size (wX11 cy a o S) rs) ([.ref (a o), .int p1, .int p2, .int p3] : List Value).toArray s (cX rs) (sX rs) (va_A (wX11 cy a o S) s.heap.size)) (F0 m 31 ls [.int x3]) := by
    intro x3 ls h hl
    rw [hj4] at h
    rcases tx_some h with ⟨k9, e9, h⟩ | ⟨x5, e6, h⟩
    · refine tcT (fun st v t q => by obtain ⟨⟨u, -, hu, -⟩, -⟩ := q; cases hu) hG hX hP hD hS hA (pm0 (wX11 cy a o S)) (fun h1 h2 => vx_runS (As := [.int x3]) (rest := []) ⟨hx, hb, hml, hown, hts⟩ (qX11_requireState l hl9 D cy tt  x3 (s.heap).size (Sum.inl k9) e9) (va_cwS 1 hts gX11_enter_X11_requireState rfl rfl rfl (by decide +kernel) ⟨Nat.le_of_ble_eq_true rfl, Nat.le_of_ble_eq_true rfl⟩) ⟨h1, h2⟩ rfl rfl hl.1 rfl (lv_room (Nat.le_of_ble_eq_true rfl)) dX11_enter_31 ⟨(by rw [← h]; exact Nat.le_refl 1), (by rw [← h]; exact Nat.le_refl 6)⟩) (fun ce q9 H locs hP hS hce hcv hcl => ?_)
      exact vx_out (fun x hx9 => (htab x hx9).elim) hlocks hce hcv hcl (fun t ht hvm => xThrow rfl h hP hD hS (by rw [ht]; exact Nat.le_refl _) (fun q _ => by rw [ht])) hS.2.2 (by rw [← h]; exact Nat.le_refl 1) (by rw [← h]; exact Nat.le_refl 6)
    refine tcNv hG hX hP hD hS hA (pm0 (wX11 cy a o S)) (fun h1 h2 => vx_runS (As := [.int x3]) (rest := []) ⟨hx, hb, hml, hown, hts⟩ (qX11_requireState l hl9 D cy tt  x3 (s.heap).size (Sum.inr x5) e6) (va_cwS 1 hts gX11_enter_X11_requireState rfl rfl rfl (by decide +kernel) ⟨Nat.le_of_ble_eq_true rfl, Nat.le_of_ble_eq_true rfl⟩) ⟨h1, h2⟩ rfl rfl hl.1 rfl (lv_room (Nat.le_of_ble_eq_true rfl)) dX11_enter_31 ⟨Nat.zero_le _, Nat.zero_le _⟩) (c2 := 0) (s2 := 0) rfl rfl (fun H locs hP hS => ?_)
    refine lv_aload_n hx hb dX11_enter_34 rfl (lv_at hl 0 rfl) ?_
    refine va_get (D := D) (ci := 11) (v := .ref (a (o + 54))) (C := RX11) (T := TX11) (N := 3) hx hb hts hinX11 hown hK hP 0 rfl rfl 1 (by decide) hf19 (fun _ h9 => h9) rfl dX11_enter_35 ?_
    refine lv_aload_n hx hb dX11_enter_38 rfl (lv_at hl 0 rfl) ?_
    refine va_get (D := D) (ci := 11) (v := .ref (a (o + 1))) (C := RX11) (T := TX11) (N := 3) hx hb hts hinX11 hown hK hP 0 rfl rfl 0 (by decide) hf10 (fun _ h9 => h9) rfl dX11_enter_39 ?_
    obtain ⟨x7, e8, h⟩ := bd_some h
    refine smVv (As := [.ref (a (o + 1))]) (rest := []) (ws' := (wX11 cy a o (uX11_records S x7))) (q0 := 0) (qX5_keep l D cy a (o + 54) a (o + 1) (gX11_records S) (gX11_now S)  (H).size x7 e8) ⟨hx, hb, hml, hown, hts⟩ (cwV 1 hts gX11_enter_X5_keep rfl rfl rfl (by decide +kernel) ⟨Nat.le_of_ble_eq_true rfl, Nat.le_of_ble_eq_true rfl⟩) hG hP hD hS hA (pm2r (X := (hX11 a o S)) (c1 := (wX5 cy a (o + 54) (gX11_records S))) (Y := ([] : va_W)) (c2 := (wX0 cy a (o + 1) (gX11_now S))) (Z := (wX8 cy a (o + 268) (gX11_text S))) (show (wX11 cy a o S) = (hX11 a o S) ++ ((wX0 cy a (o + 1) (gX11_now S)) ++ (([] : va_W) ++ ((wX5 cy a (o + 54) (gX11_records S)) ++ (wX8 cy a (o + 268) (gX11_text S))))) from by simp only [wX11, List.append_assoc, List.nil_append, List.append_nil] <;> rfl)) (pm2r (X := (hX11 a o S)) (c1 := (wX5 cy a (o + 54) x7)) (Y := ([] : va_W)) (c2 := (wX0 cy a (o + 1) (gX11_now S))) (Z := (wX8 cy a (o + 268) (gX11_text S))) (show (wX11 cy a o (uX11_records S x7)) = (hX11 a o S) ++ ((wX0 cy a (o + 1) (gX11_now S)) ++ (([] : va_W) ++ ((wX5 cy a (o + 54) x7) ++ (wX8 cy a (o + 268) (gX11_text S))))) from by simp only [wX11, List.append_assoc, List.nil_append, List.append_nil] <;> rfl)) rfl rfl rfl hl.1 rfl (Nat.le_of_ble_eq_true rfl) dX11_enter_42 ⟨Nat.zero_le _, Nat.zero_le _⟩ (fun H locs hP hD hS => ?_)
    obtain ⟨S9, eS10, h⟩ := lt_elim h
    have hP : va_P D vwCl (wX11 cy a o S9) H := by rw [eS10]; exact hP
    have hD : va_D (va_A (wX11 cy a o S) s.heap.size) (wX11 cy a o S9) := by rw [eS10]; exact hD
    refine lv_aload_n hx hb dX11_enter_45 rfl (lv_at hl 0 rfl) ?_
    refine va_get (D := D) (ci := 11) (v := .ref (a (o + 1))) (C := RX11) (T := TX11) (N := 3) hx hb hts hinX11 hown hK hP 0 rfl rfl 0 (by decide) hf10 (fun _ h9 => h9) rfl dX11_enter_46 ?_
    refine pcR2 (As := []) (rest := []) (q0 := 0) (qX0_openSheet l D cy a (o + 1) (gX11_now S9)) ⟨hx, hb, hml, hown, hts⟩ (cwV 0 hts gX11_enter_X0_openSheet rfl rfl rfl (by decide +kernel) ⟨Nat.le_of_ble_eq_true rfl, Nat.le_of_ble_eq_true rfl⟩) hG (P_seg (X := (hX11 a o S9)) (c := (wX0 cy a (o + 1) (gX11_now S9))) (Y := ((wX5 cy a (o + 54) (gX11_records S9)) ++ (wX8 cy a (o + 268) (gX11_text S9)))) hP (by simp only [wX11, List.append_assoc, List.nil_append, List.append_nil] <;> rfl)) rfl rfl rfl hl.1 rfl (Nat.le_of_ble_eq_true rfl) dX11_enter_49 ⟨Nat.zero_le _, Nat.zero_le _⟩ (fun cc => ?_) (fun cc => ?_)
    · have h := ite_p cc h
      refine lv_iload_n hx hb dX11_enter_52 rfl (lv_at hl 1 rfl) ?_
      refine lv_iload_n hx hb dX11_enter_53 rfl (lv_at hl 2 rfl) ?_
      refine lv_iload_n hx hb dX11_enter_54 rfl (lv_at hl 3 rfl) ?_
      obtain ⟨x11, e12, h⟩ := bd_some h
      refine smVv (As := [.int p1, .int p2, .int p3]) (rest := []) (ws' := (wX11 cy a o (uX11_now S9 (uX0_tie (gX11_now S9) (uX9_sheet (gX0_tie (gX11_now S9)) x11))))) (q0 := 0) (qX6_put l D cy a (o + 1 + 35 + 2) (gX9_sheet (gX0_tie (gX11_now S9))) p1 p2 p3 (H).size x11 e12) ⟨hx, hb, hml, hown, hts⟩ (cwV 3 hts gX11_enter_X6_put rfl rfl rfl (by decide +kernel) ⟨Nat.le_of_ble_eq_true rfl, Nat.le_of_ble_eq_true rfl⟩) hG hP hD hS hA (pm1 (X := ((hX11 a o S9) ++ ((hX0 a (o + 1) (gX11_now S9)) ++ ((wX10 cy a (o + 1 + 1) (gX0_works (gX11_now S9))) ++ ((wX2 cy a (o + 1 + 5) (gX0_entrants (gX11_now S9))) ++ ((rowsW (cy 2) (cy 0) a (o + 1 + 7) 4 6 (gX0_rules (gX11_now S9))) ++ ((wX4 cy a (o + 1 + 12) (gX0_programs (gX11_now S9))) ++ ((wX3 cy a (o + 1 + 14) (gX0_jury (gX11_now S9))) ++ ((wX7 cy a (o + 1 + 23) (gX0_stage (gX11_now S9))) ++ ((wX6 cy a (o + 1 + 26) (gX0_sheet (gX11_now S9))) ++ ((hX9 a (o + 1 + 35) (gX0_tie (gX11_now S9))) ++ (aW cy a (o + 1 + 35 + 1) 12 (gX9_tied (gX0_tie (gX11_now S9))))))))))))))) (c := (wX6 cy a (o + 1 + 35 + 2) (gX9_sheet (gX0_tie (gX11_now S9))))) (Y := ((rowsW (cy 2) (cy 0) a (o + 1 + 46) 4 12 (gX0_closedScores (gX11_now S9))) ++ ((wX1 cy a (o + 1 + 51) (gX0_cut (gX11_now S9))) ++ ((wX5 cy a (o + 54) (gX11_records S9)) ++ (wX8 cy a (o + 268) (gX11_text S9)))))) (show (wX11 cy a o S9) = ((hX11 a o S9) ++ ((hX0 a (o + 1) (gX11_now S9)) ++ ((wX10 cy a (o + 1 + 1) (gX0_works (gX11_now S9))) ++ ((wX2 cy a (o + 1 + 5) (gX0_entrants (gX11_now S9))) ++ ((rowsW (cy 2) (cy 0) a (o + 1 + 7) 4 6 (gX0_rules (gX11_now S9))) ++ ((wX4 cy a (o + 1 + 12) (gX0_programs (gX11_now S9))) ++ ((wX3 cy a (o + 1 + 14) (gX0_jury (gX11_now S9))) ++ ((wX7 cy a (o + 1 + 23) (gX0_stage (gX11_now S9))) ++ ((wX6 cy a (o + 1 + 26) (gX0_sheet (gX11_now S9))) ++ ((hX9 a (o + 1 + 35) (gX0_tie (gX11_now S9))) ++ (aW cy a (o + 1 + 35 + 1) 12 (gX9_tied (gX0_tie (gX11_now S9)))))))))))))) ++ ((wX6 cy a (o + 1 + 35 + 2) (gX9_sheet (gX0_tie (gX11_now S9)))) ++ ((rowsW (cy 2) (cy 0) a (o + 1 + 46) 4 12 (gX0_closedScores (gX11_now S9))) ++ ((wX1 cy a (o + 1 + 51) (gX0_cut (gX11_now S9))) ++ ((wX5 cy a (o + 54) (gX11_records S9)) ++ (wX8 cy a (o + 268) (gX11_text S9)))))) from by simp only [wX0, wX11, wX9, List.append_assoc, List.nil_append, List.append_nil] <;> rfl)) (pm1 (X := ((hX11 a o S9) ++ ((hX0 a (o + 1) (gX11_now S9)) ++ ((wX10 cy a (o + 1 + 1) (gX0_works (gX11_now S9))) ++ ((wX2 cy a (o + 1 + 5) (gX0_entrants (gX11_now S9))) ++ ((rowsW (cy 2) (cy 0) a (o + 1 + 7) 4 6 (gX0_rules (gX11_now S9))) ++ ((wX4 cy a (o + 1 + 12) (gX0_programs (gX11_now S9))) ++ ((wX3 cy a (o + 1 + 14) (gX0_jury (gX11_now S9))) ++ ((wX7 cy a (o + 1 + 23) (gX0_stage (gX11_now S9))) ++ ((wX6 cy a (o + 1 + 26) (gX0_sheet (gX11_now S9))) ++ ((hX9 a (o + 1 + 35) (gX0_tie (gX11_now S9))) ++ (aW cy a (o + 1 + 35 + 1) 12 (gX9_tied (gX0_tie (gX11_now S9))))))))))))))) (c := (wX6 cy a (o + 1 + 35 + 2) x11)) (Y := ((rowsW (cy 2) (cy 0) a (o + 1 + 46) 4 12 (gX0_closedScores (gX11_now S9))) ++ ((wX1 cy a (o + 1 + 51) (gX0_cut (gX11_now S9))) ++ ((wX5 cy a (o + 54) (gX11_records S9)) ++ (wX8 cy a (o + 268) (gX11_text S9)))))) (show (wX11 cy a o (uX11_now S9 (uX0_tie (gX11_now S9) (uX9_sheet (gX0_tie (gX11_now S9)) x11)))) = ((hX11 a o S9) ++ ((hX0 a (o + 1) (gX11_now S9)) ++ ((wX10 cy a (o + 1 + 1) (gX0_works (gX11_now S9))) ++ ((wX2 cy a (o + 1 + 5) (gX0_entrants (gX11_now S9))) ++ ((rowsW (cy 2) (cy 0) a (o + 1 + 7) 4 6 (gX0_rules (gX11_now S9))) ++ ((wX4 cy a (o + 1 + 12) (gX0_programs (gX11_now S9))) ++ ((wX3 cy a (o + 1 + 14) (gX0_jury (gX11_now S9))) ++ ((wX7 cy a (o + 1 + 23) (gX0_stage (gX11_now S9))) ++ ((wX6 cy a (o + 1 + 26) (gX0_sheet (gX11_now S9))) ++ ((hX9 a (o + 1 + 35) (gX0_tie (gX11_now S9))) ++ (aW cy a (o + 1 + 35 + 1) 12 (gX9_tied (gX0_tie (gX11_now S9)))))))))))))) ++ ((wX6 cy a (o + 1 + 35 + 2) x11) ++ ((rowsW (cy 2) (cy 0) a (o + 1 + 46) 4 12 (gX0_closedScores (gX11_now S9))) ++ ((wX1 cy a (o + 1 + 51) (gX0_cut (gX11_now S9))) ++ ((wX5 cy a (o + 54) (gX11_records S9)) ++ (wX8 cy a (o + 268) (gX11_text S9)))))) from by simp only [wX0, wX11, wX9, List.append_assoc, List.nil_append, List.append_nil] <;> rfl)) rfl rfl rfl hl.1 rfl (Nat.le_of_ble_eq_true rfl) dX11_enter_55 ⟨Nat.zero_le _, Nat.zero_le _⟩ (fun H locs hP hD hS => ?_)
      obtain ⟨S13, eS14, h⟩ := lt_elim h
      have hP : va_P D vwCl (wX11 cy a o S13) H := by rw [eS14]; exact hP
      have hD : va_D (va_A (wX11 cy a o S) s.heap.size) (wX11 cy a o S13) := by rw [eS14]; exact hD
      refine lv_aload_n hx hb dX11_enter_58 rfl (lv_at hl 0 rfl) ?_
      refine va_get (D := D) (ci := 11) (v := .ref (a (o + 1))) (C := RX11) (T := TX11) (N := 3) hx hb hts hinX11 hown hK hP 0 rfl rfl 0 (by decide) hf10 (fun _ h9 => h9) rfl dX11_enter_59 ?_
      refine lv_iload_n hx hb dX11_enter_62 rfl (lv_at hl 2 rfl) ?_
      obtain ⟨x15, e16, h⟩ := bd_some h
      refine pcV (As := [.int p2]) (rest := []) (q0 := 0) (qX0_countedMarks l D cy a (o + 1) (gX11_now S13) p2 x15 e16) ⟨hx, hb, hml, hown, hts⟩ (cwV 1 hts gX11_enter_X0_countedMarks rfl rfl rfl (by decide +kernel) ⟨Nat.le_of_ble_eq_true rfl, Nat.le_of_ble_eq_true rfl⟩) hG (P_seg (X := (hX11 a o S13)) (c := (wX0 cy a (o + 1) (gX11_now S13))) (Y := ((wX5 cy a (o + 54) (gX11_records S13)) ++ (wX8 cy a (o + 268) (gX11_text S13)))) hP (by simp only [wX11, List.append_assoc, List.nil_append, List.append_nil] <;> rfl)) rfl rfl rfl hl.1 rfl (Nat.le_of_ble_eq_true rfl) dX11_enter_63 ⟨Nat.zero_le _, Nat.zero_le _⟩ ?_
      refine vx_ret (W.widen (k := cX rs) (n := sX rs) (Nat.zero_le _) (Nat.zero_le _) ?_)
      exact W.iret (v := x15) hx hb hr (fun t ht hW => ⟨⟨x15, S13, rfl, some_in h, by rw [ht]; exact hP, hD⟩, hS.F ht⟩) hS.2.2 dX11_enter_66
    · have h := ite_n cc h
      refine lv_iload_n hx hb dX11_enter_52 rfl (lv_at hl 1 rfl) ?_
      refine lv_iload_n hx hb dX11_enter_53 rfl (lv_at hl 2 rfl) ?_
      refine lv_iload_n hx hb dX11_enter_54 rfl (lv_at hl 3 rfl) ?_
      obtain ⟨x17, e18, h⟩ := bd_some h
      refine smVv (As := [.int p1, .int p2, .int p3]) (rest := []) (ws' := (wX11 cy a o (uX11_now S9 (uX0_sheet (gX11_now S9) x17)))) (q0 := 0) (qX6_put l D cy a (o + 1 + 26) (gX0_sheet (gX11_now S9)) p1 p2 p3 (H).size x17 e18) ⟨hx, hb, hml, hown, hts⟩ (cwV 3 hts gX11_enter_X6_put rfl rfl rfl (by decide +kernel) ⟨Nat.le_of_ble_eq_true rfl, Nat.le_of_ble_eq_true rfl⟩) hG hP hD hS hA (pm1 (X := ((hX11 a o S9) ++ ((hX0 a (o + 1) (gX11_now S9)) ++ ((wX10 cy a (o + 1 + 1) (gX0_works (gX11_now S9))) ++ ((wX2 cy a (o + 1 + 5) (gX0_entrants (gX11_now S9))) ++ ((rowsW (cy 2) (cy 0) a (o + 1 + 7) 4 6 (gX0_rules (gX11_now S9))) ++ ((wX4 cy a (o + 1 + 12) (gX0_programs (gX11_now S9))) ++ ((wX3 cy a (o + 1 + 14) (gX0_jury (gX11_now S9))) ++ (wX7 cy a (o + 1 + 23) (gX0_stage (gX11_now S9))))))))))) (c := (wX6 cy a (o + 1 + 26) (gX0_sheet (gX11_now S9)))) (Y := ((wX9 cy a (o + 1 + 35) (gX0_tie (gX11_now S9))) ++ ((rowsW (cy 2) (cy 0) a (o + 1 + 46) 4 12 (gX0_closedScores (gX11_now S9))) ++ ((wX1 cy a (o + 1 + 51) (gX0_cut (gX11_now S9))) ++ ((wX5 cy a (o + 54) (gX11_records S9)) ++ (wX8 cy a (o + 268) (gX11_text S9))))))) (show (wX11 cy a o S9) = ((hX11 a o S9) ++ ((hX0 a (o + 1) (gX11_now S9)) ++ ((wX10 cy a (o + 1 + 1) (gX0_works (gX11_now S9))) ++ ((wX2 cy a (o + 1 + 5) (gX0_entrants (gX11_now S9))) ++ ((rowsW (cy 2) (cy 0) a (o + 1 + 7) 4 6 (gX0_rules (gX11_now S9))) ++ ((wX4 cy a (o + 1 + 12) (gX0_programs (gX11_now S9))) ++ ((wX3 cy a (o + 1 + 14) (gX0_jury (gX11_now S9))) ++ (wX7 cy a (o + 1 + 23) (gX0_stage (gX11_now S9)))))))))) ++ ((wX6 cy a (o + 1 + 26) (gX0_sheet (gX11_now S9))) ++ ((wX9 cy a (o + 1 + 35) (gX0_tie (gX11_now S9))) ++ ((rowsW (cy 2) (cy 0) a (o + 1 + 46) 4 12 (gX0_closedScores (gX11_now S9))) ++ ((wX1 cy a (o + 1 + 51) (gX0_cut (gX11_now S9))) ++ ((wX5 cy a (o + 54) (gX11_records S9)) ++ (wX8 cy a (o + 268) (gX11_text S9))))))) from by simp only [wX0, wX11, List.append_assoc, List.nil_append, List.append_nil] <;> rfl)) (pm1 (X := ((hX11 a o S9) ++ ((hX0 a (o + 1) (gX11_now S9)) ++ ((wX10 cy a (o + 1 + 1) (gX0_works (gX11_now S9))) ++ ((wX2 cy a (o + 1 + 5) (gX0_entrants (gX11_now S9))) ++ ((rowsW (cy 2) (cy 0) a (o + 1 + 7) 4 6 (gX0_rules (gX11_now S9))) ++ ((wX4 cy a (o + 1 + 12) (gX0_programs (gX11_now S9))) ++ ((wX3 cy a (o + 1 + 14) (gX0_jury (gX11_now S9))) ++ (wX7 cy a (o + 1 + 23) (gX0_stage (gX11_now S9))))))))))) (c := (wX6 cy a (o + 1 + 26) x17)) (Y := ((wX9 cy a (o + 1 + 35) (gX0_tie (gX11_now S9))) ++ ((rowsW (cy 2) (cy 0) a (o + 1 + 46) 4 12 (gX0_closedScores (gX11_now S9))) ++ ((wX1 cy a (o + 1 + 51) (gX0_cut (gX11_now S9))) ++ ((wX5 cy a (o + 54) (gX11_records S9)) ++ (wX8 cy a (o + 268) (gX11_text S9))))))) (show (wX11 cy a o (uX11_now S9 (uX0_sheet (gX11_now S9) x17))) = ((hX11 a o S9) ++ ((hX0 a (o + 1) (gX11_now S9)) ++ ((wX10 cy a (o + 1 + 1) (gX0_works (gX11_now S9))) ++ ((wX2 cy a (o + 1 + 5) (gX0_entrants (gX11_now S9))) ++ ((rowsW (cy 2) (cy 0) a (o + 1 + 7) 4 6 (gX0_rules (gX11_now S9))) ++ ((wX4 cy a (o + 1 + 12) (gX0_programs (gX11_now S9))) ++ ((wX3 cy a (o + 1 + 14) (gX0_jury (gX11_now S9))) ++ (wX7 cy a (o + 1 + 23) (gX0_stage (gX11_now S9)))))))))) ++ ((wX6 cy a (o + 1 + 26) x17) ++ ((wX9 cy a (o + 1 + 35) (gX0_tie (gX11_now S9))) ++ ((rowsW (cy 2) (cy 0) a (o + 1 + 46) 4 12 (gX0_closedScores (gX11_now S9))) ++ ((wX1 cy a (o + 1 + 51) (gX0_cut (gX11_now S9))) ++ ((wX5 cy a (o + 54) (gX11_records S9)) ++ (wX8 cy a (o + 268) (gX11_text S9))))))) from by simp only [wX0, wX11, List.append_assoc, List.nil_append, List.append_nil] <;> rfl)) rfl rfl rfl hl.1 rfl (Nat.le_of_ble_eq_true rfl) dX11_enter_55 ⟨Nat.zero_le _, Nat.zero_le _⟩ (fun H locs hP hD hS => ?_)
      obtain ⟨S19, eS20, h⟩ := lt_elim h
      have hP : va_P D vwCl (wX11 cy a o S19) H := by rw [eS20]; exact hP
      have hD : va_D (va_A (wX11 cy a o S) s.heap.size) (wX11 cy a o S19) := by rw [eS20]; exact hD
      refine lv_aload_n hx hb dX11_enter_58 rfl (lv_at hl 0 rfl) ?_
      refine va_get (D := D) (ci := 11) (v := .ref (a (o + 1))) (C := RX11) (T := TX11) (N := 3) hx hb hts hinX11 hown hK hP 0 rfl rfl 0 (by decide) hf10 (fun _ h9 => h9) rfl dX11_enter_59 ?_
      refine lv_iload_n hx hb dX11_enter_62 rfl (lv_at hl 2 rfl) ?_
      obtain ⟨x21, e22, h⟩ := bd_some h
      refine pcV (As := [.int p2]) (rest := []) (q0 := 0) (qX0_countedMarks l D cy a (o + 1) (gX11_now S19) p2 x21 e22) ⟨hx, hb, hml, hown, hts⟩ (cwV 1 hts gX11_enter_X0_countedMarks rfl rfl rfl (by decide +kernel) ⟨Nat.le_of_ble_eq_true rfl, Nat.le_of_ble_eq_true rfl⟩) hG (P_seg (X := (hX11 a o S19)) (c := (wX0 cy a (o + 1) (gX11_now S19))) (Y := ((wX5 cy a (o + 54) (gX11_records S19)) ++ (wX8 cy a (o + 268) (gX11_text S19)))) hP (by simp only [wX11, List.append_assoc, List.nil_append, List.append_nil] <;> rfl)) rfl rfl rfl hl.1 rfl (Nat.le_of_ble_eq_true rfl) dX11_enter_63 ⟨Nat.zero_le _, Nat.zero_le _⟩ ?_
      refine vx_ret (W.widen (k := cX rs) (n := sX rs) (Nat.zero_le _) (Nat.zero_le _) ?_)
      exact W.iret (v := x21) hx hb hr (fun t ht hW => ⟨⟨x21, S19, rfl, some_in h, by rw [ht]; exact hP, hD⟩, hS.F ht⟩) hS.2.2 dX11_enter_66
  obtain ⟨j23, hj23, h⟩ := jn_elim h
  have Jj23 : ∀ (ls : Array Slot), j23 () = some rs → lv_has ls 4 [(0, .ref (a o)), (1, .int p1), (2, .int p2), (3, .int p3)] → W p l e (headSpec wsX11_enter ({ frames := 7, cells := cX rs, slots := sX rs, locals := 206 } : Room)).room s m ([.ref (a o), .int p1, .int p2, .int p3] : List Value).toArray below meth c s.heap [] 0 0 (vx_MQ below (va_Qi (fun r (u : SX11) => Sum.inr (r, u) = rs) (fun u t => mB D s.heap.size (wX11 cy a o S) (wX11 cy a o u) t) (va_A (wX11 cy a o S) s.heap.size)) (xC D s.heap.size (wX11 cy a o S) rs) ([.ref (a o), .int p1, .int p2, .int p3] : List Value).toArray s (cX rs) (sX rs) (va_A (wX11 cy a o S) s.heap.size)) (F0 m 30 ls []) := by
    intro ls h hl
    rw [hj23] at h
    refine lv_iconst (v := (0 : Int32)) hx hb dX11_enter_30 (by decide) ?_
    exact Jj4 (0 : Int32) ls h (lv_sub hl [0, 1, 2, 3] rfl)
  refine lv_if_eq (tgt := 30) hx hb dX11_enter_8 (by decide) (fun cc => ?_) (fun cc => ?_)
  · have h := ite_p cc h
    exact Jj23  ls h (lv_sub hl [0, 1, 2, 3] rfl)
  · have h := ite_n cc h
    refine lv_aload_n hx hb dX11_enter_11 rfl (lv_at hl 0 rfl) ?_
    refine va_get (D := D) (ci := 11) (v := .ref (a (o + 1))) (C := RX11) (T := TX11) (N := 3) hx hb hts hinX11 hown hK hP 0 rfl rfl 0 (by decide) hf10 (fun _ h9 => h9) rfl dX11_enter_12 ?_
    refine va_getN (D := D) (ci := 0) (v := .ref (a (o + 1 + 14))) (C := RX0) (T := TX0) (N := 14) hx hb hts hinX0 hown hK hP 1 rfl rfl 8 (by decide) hf87 (fun _ h9 => h9) rfl dX11_enter_15 ?_
    refine lv_iload_n hx hb dX11_enter_18 rfl (lv_at hl 1 rfl) ?_
    refine lv_iload_n hx hb dX11_enter_19 rfl (lv_at hl 2 rfl) ?_
    obtain ⟨x24, e25, h⟩ := bd_some h
    refine pcV (As := [.int p1, .int p2]) (rest := []) (q0 := 0) (qX3_isBarred l D cy a (o + 1 + 14) (gX0_jury (gX11_now S)) p1 p2 x24 e25) ⟨hx, hb, hml, hown, hts⟩ (cwV 2 hts gX11_enter_X3_isBarred rfl rfl rfl (by decide +kernel) ⟨Nat.le_of_ble_eq_true rfl, Nat.le_of_ble_eq_true rfl⟩) hG (P_seg (X := ((hX11 a o S) ++ ((hX0 a (o + 1) (gX11_now S)) ++ ((wX10 cy a (o + 1 + 1) (gX0_works (gX11_now S))) ++ ((wX2 cy a (o + 1 + 5) (gX0_entrants (gX11_now S))) ++ ((rowsW (cy 2) (cy 0) a (o + 1 + 7) 4 6 (gX0_rules (gX11_now S))) ++ (wX4 cy a (o + 1 + 12) (gX0_programs (gX11_now S))))))))) (c := (wX3 cy a (o + 1 + 14) (gX0_jury (gX11_now S)))) (Y := ((wX7 cy a (o + 1 + 23) (gX0_stage (gX11_now S))) ++ ((wX6 cy a (o + 1 + 26) (gX0_sheet (gX11_now S))) ++ ((wX9 cy a (o + 1 + 35) (gX0_tie (gX11_now S))) ++ ((rowsW (cy 2) (cy 0) a (o + 1 + 46) 4 12 (gX0_closedScores (gX11_now S))) ++ ((wX1 cy a (o + 1 + 51) (gX0_cut (gX11_now S))) ++ ((wX5 cy a (o + 54) (gX11_records S)) ++ (wX8 cy a (o + 268) (gX11_text S))))))))) hP (by simp only [wX0, wX11, List.append_assoc, List.nil_append, List.append_nil] <;> rfl)) rfl rfl rfl hl.1 rfl (Nat.le_of_ble_eq_true rfl) dX11_enter_20 ⟨Nat.zero_le _, Nat.zero_le _⟩ ?_
    refine lv_if_ne (tgt := 30) hx hb dX11_enter_23 (by decide) (fun cc => ?_) (fun cc => ?_)
    · have h := ite_n cc h
      exact Jj23  ls h (lv_sub hl [0, 1, 2, 3] rfl)
    · have h := ite_p cc h
      refine lv_iconst (v := (1 : Int32)) hx hb dX11_enter_26 (by decide) ?_
      refine lv_goto (tgt := 31) hx hb dX11_enter_27 (by decide) ?_
      exact Jj4 (1 : Int32) ls h (lv_sub hl [0, 1, 2, 3] rfl)
set_option maxHeartbeats 4000000 in
set_option maxRecDepth 100000 in
theorem qX11_mark (l : Launch) (hl9 : l.stackTraces = false) (D : va_G) (cy : Nat → ClassId) (tt : Nat → Nat) (a : Nat → Nat) (o : Nat) (S : SX11) (p1 : Int32) (p2 : Int32) (p3 : Int32) (sz : Nat) (rs : Nat ⊕ (Int32 × SX11)) (h : DX11_mark S p1 p2 p3 = some rs) : vx_Met l yX11_mark wsX11_mark ({ frames := 9, cells := cX rs, slots := sX rs, locals := 229 } : Room) (xP D cy tt sz [.ref (a o), .int p1, .int p2, .int p3] (wX11 cy a o S)) (va_Qi (fun r (u : SX11) => Sum.inr (r, u) = rs) (fun u t => mB D sz (wX11 cy a o S) (wX11 cy a o u) t) (va_A (wX11 cy a o S) sz)) (xC D sz (wX11 cy a o S) rs) (cX rs) (sX rs) (va_A (wX11 cy a o S) sz) := by
  refine vx_ofW (cc := cX11_mark) (maxL := 4) (ret := (some .int)) (by decide) rfl ?_
  intro p e s m args below meth c s₁ B hml htab hv
  obtain ⟨rfl, hsz, hP, hG, hD0, hX⟩ := hv
  have hx := B.exec
  have hb := B.bytes
  have hr := B.returns
  have hts := atoms_spec (ws := wsX11_mark) B.pre
  have hown : s.vm.findClass RX11 = some m.cls := findClass_of_methodNamed B.named
  have hlocks := B.notSynchronized
  have hK := hG.1
  subst hsz
  have hD := hD0.self (sz := s.heap.size)
  have hA : ∀ q : Nat, s.heap.size ≤ q → (va_A (wX11 cy a o S) s.heap.size) q := fun q h => Or.inr h
  have hS : va_S (va_A (wX11 cy a o S) s.heap.size) s.heap s.heap [] := va_S.rf
  have hinX11 := (by decide +kernel : ∀ w ∈ wsX110, w ∈ wsX11_mark)
  have hf10 := hts (.fieldLink RX11 10 "PianoRounds" "now" "LPianoRounds$Competition;") (by decide +kernel)
  have hinX0 := (by decide +kernel : ∀ w ∈ wsX00, w ∈ wsX11_mark)
  have hf38 := va_Nw.use (A := ([.ref (a o), .int p1, .int p2, .int p3] : List Value).toArray) (U := s) (w := .fieldLinkNest "PianoRounds" 38 "PianoRounds$Competition" "state" "I" "PianoRounds") rfl (hG.2.1 _ (by decide +kernel))
  have hl := lv_entry ([.ref (a o), .int p1, .int p2, .int p3]) (n := 4) (Nat.le_of_ble_eq_true rfl)
  rw [lg_entry_eq]
  generalize (lg_sl ([.ref (a o), .int p1, .int p2, .int p3]) ++ List.replicate (4 - (lg_sl ([.ref (a o), .int p1, .int p2, .int p3])).length) Slot.unset).toArray = ls at hl ⊢
  have hl : lv_has ls 4 [(0, .ref (a o)), (1, .int p1), (2, .int p2), (3, .int p3)] := hl
  rw [DX11_mark] at h
  refine lv_aload_n hx hb dX11_mark_0 rfl (lv_at hl 0 rfl) ?_
  refine lv_iload_n hx hb dX11_mark_1 rfl (lv_at hl 1 rfl) ?_
  refine lv_iload_n hx hb dX11_mark_2 rfl (lv_at hl 2 rfl) ?_
  rcases tx_some h with ⟨k9, e9, h⟩ | ⟨x1, e2, h⟩
  · refine tcT (fun st v t q => by obtain ⟨⟨u, -, hu, -⟩, -⟩ := q; cases hu) hG hX hP hD hS hA (pm1 (X := ([] : va_W)) (c := (wX11n cy a o (gX11_now S))) (Y := ((wX5 cy a (o + 54) (gX11_records S)) ++ (wX8 cy a (o + 268) (gX11_text S)))) (show (wX11 cy a o S) = ([] : va_W) ++ ((wX11n cy a o (gX11_now S)) ++ ((wX5 cy a (o + 54) (gX11_records S)) ++ (wX8 cy a (o + 268) (gX11_text S)))) from by simp only [wX11, wX11n, List.append_assoc, List.nil_append, List.append_nil] <;> rfl)) (fun h1 h2 => vx_runV (As := [.int p1, .int p2]) (rest := []) ⟨hx, hb, hml, hown, hts⟩ (qX11_requireJurorAndEntrant l hl9 D cy tt a o (gX11_now S) p1 p2 (s.heap).size (Sum.inl k9) e9) (cwV 2 hts gX11_mark_X11_requireJurorAndEntrant rfl rfl rfl (by decide +kernel) ⟨Nat.le_of_ble_eq_true rfl, Nat.le_of_ble_eq_true rfl⟩) ⟨h1, va_recv hK hP (ci := 11) (q0 := 0) rfl rfl, h2⟩ rfl rfl hl.1 rfl (lv_room (Nat.le_of_ble_eq_true rfl)) dX11_mark_3 ⟨(by rw [← h]; exact Nat.le_refl 1), (by rw [← h]; exact Nat.le_refl 6)⟩) (fun ce q9 H locs hP hS hce hcv hcl => ?_)
    exact vx_out (fun x hx9 => (htab x hx9).elim) hlocks hce hcv hcl (fun t ht hvm => xThrow rfl h hP hD hS (by rw [ht]; exact Nat.le_refl _) (fun q _ => by rw [ht])) hS.2.2 (by rw [← h]; exact Nat.le_refl 1) (by rw [← h]; exact Nat.le_refl 6)
  refine tcNv hG hX hP hD hS hA (pm1 (X := ([] : va_W)) (c := (wX11n cy a o (gX11_now S))) (Y := ((wX5 cy a (o + 54) (gX11_records S)) ++ (wX8 cy a (o + 268) (gX11_text S)))) (show (wX11 cy a o S) = ([] : va_W) ++ ((wX11n cy a o (gX11_now S)) ++ ((wX5 cy a (o + 54) (gX11_records S)) ++ (wX8 cy a (o + 268) (gX11_text S)))) from by simp only [wX11, wX11n, List.append_assoc, List.nil_append, List.append_nil] <;> rfl)) (fun h1 h2 => vx_runV (As := [.int p1, .int p2]) (rest := []) ⟨hx, hb, hml, hown, hts⟩ (qX11_requireJurorAndEntrant l hl9 D cy tt a o (gX11_now S) p1 p2 (s.heap).size (Sum.inr x1) e2) (cwV 2 hts gX11_mark_X11_requireJurorAndEntrant rfl rfl rfl (by decide +kernel) ⟨Nat.le_of_ble_eq_true rfl, Nat.le_of_ble_eq_true rfl⟩) ⟨h1, va_recv hK hP (ci := 11) (q0 := 0) rfl rfl, h2⟩ rfl rfl hl.1 rfl (lv_room (Nat.le_of_ble_eq_true rfl)) dX11_mark_3 ⟨Nat.zero_le _, Nat.zero_le _⟩) (c2 := 0) (s2 := 0) rfl rfl (fun H locs hP hS => ?_)
  refine lv_iload_n hx hb dX11_mark_6 rfl (lv_at hl 3 rfl) ?_
  refine lv_iconst (v := (0 : Int32)) hx hb dX11_mark_7 (by decide) ?_
  refine lv_aload_n hx hb dX11_mark_8 rfl (lv_at hl 0 rfl) ?_
  refine va_get (D := D) (ci := 11) (v := .ref (a (o + 1))) (C := RX11) (T := TX11) (N := 3) hx hb hts hinX11 hown hK hP 0 rfl rfl 0 (by decide) hf10 (fun _ h9 => h9) rfl dX11_mark_9 ?_
  refine va_getN (D := D) (ci := 0) (v := .int (gX0_state (gX11_now S))) (C := RX0) (T := TX0) (N := 14) hx hb hts hinX0 hown hK hP 1 rfl rfl 0 (by decide) hf38 (fun _ h9 => h9) rfl dX11_mark_12 ?_
  refine lv_iconst (v := (2 : Int32)) hx hb dX11_mark_15 (by decide) ?_
  obtain ⟨j4, hj4, h⟩ := jn_elim h
  have Jj4 : ∀ (x3 : Int32) (ls : Array Slot), j4 x3 = some rs → lv_has ls 4 [(0, .ref (a o)), (1, .int p1), (2, .int p2), (3, .int p3)] → W p l e (headSpec wsX11_mark ({ frames := 9, cells := cX rs, slots := sX rs, locals := 229 } : Room)).room s m ([.ref (a o), .int p1, .int p2, .int p3] : List Value).toArray below meth c H locs 0 0 (vx_MQ below (va_Qi (fun r (u : SX11) => Sum.inr (r, u) = rs) (fun u t => mB D s.heap.size (wX11 cy a o S) (wX11 cy a o u) t) (va_A (wX11 cy a o S) s.heap.size)) (xC D s.heap.size (wX11 cy a o S) rs) ([.ref (a o), .int p1, .int p2, .int p3] : List Value).toArray s (cX rs) (sX rs) (va_A (wX11 cy a o S) s.heap.size)) (F0 m 26 ls [.int x3, .int (0 : Int32), .int p3]) := by
    intro x3 ls h hl
    rw [hj4] at h
    obtain ⟨x5, e6, h⟩ := bd_some h
    refine pcS (As := [.int p3, .int (0 : Int32), .int x3]) (rest := []) (qX11_isBetween l D cy  p3 (0 : Int32) x3 x5 e6) ⟨hx, hb, hml, hown, hts⟩ (va_cwS 3 hts gX11_mark_X11_isBetween rfl rfl rfl (by decide +kernel) ⟨Nat.le_of_ble_eq_true rfl, Nat.le_of_ble_eq_true rfl⟩) hG (hP.sub [] rfl) rfl hl.1 rfl (Nat.le_of_ble_eq_true rfl) dX11_mark_26 ⟨Nat.zero_le _, Nat.zero_le _⟩ ?_
    rcases tx_some h with ⟨k9, e9, h⟩ | ⟨x7, e8, h⟩
    · refine tcT (fun st v t q => by obtain ⟨⟨u, -, hu, -⟩, -⟩ := q; cases hu) hG hX hP hD hS hA (pm0 (wX11 cy a o S)) (fun h1 h2 => vx_runS (As := [.int x5]) (rest := []) ⟨hx, hb, hml, hown, hts⟩ (qX11_requireArgument l hl9 D cy tt  x5 (H).size (Sum.inl k9) e9) (va_cwS 1 hts gX11_mark_X11_requireArgument rfl rfl rfl (by decide +kernel) ⟨Nat.le_of_ble_eq_true rfl, Nat.le_of_ble_eq_true rfl⟩) ⟨h1, h2⟩ rfl rfl hl.1 rfl (lv_room (Nat.le_of_ble_eq_true rfl)) dX11_mark_29 ⟨(by rw [← h]; exact Nat.le_refl 1), (by rw [← h]; exact Nat.le_refl 6)⟩) (fun ce q9 H locs hP hS hce hcv hcl => ?_)
      exact vx_out (fun x hx9 => (htab x hx9).elim) hlocks hce hcv hcl (fun t ht hvm => xThrow rfl h hP hD hS (by rw [ht]; exact Nat.le_refl _) (fun q _ => by rw [ht])) hS.2.2 (by rw [← h]; exact Nat.le_refl 1) (by rw [← h]; exact Nat.le_refl 6)
    refine tcNv hG hX hP hD hS hA (pm0 (wX11 cy a o S)) (fun h1 h2 => vx_runS (As := [.int x5]) (rest := []) ⟨hx, hb, hml, hown, hts⟩ (qX11_requireArgument l hl9 D cy tt  x5 (H).size (Sum.inr x7) e8) (va_cwS 1 hts gX11_mark_X11_requireArgument rfl rfl rfl (by decide +kernel) ⟨Nat.le_of_ble_eq_true rfl, Nat.le_of_ble_eq_true rfl⟩) ⟨h1, h2⟩ rfl rfl hl.1 rfl (lv_room (Nat.le_of_ble_eq_true rfl)) dX11_mark_29 ⟨Nat.zero_le _, Nat.zero_le _⟩) (c2 := 0) (s2 := 0) rfl rfl (fun H locs hP hS => ?_)
    refine lv_aload_n hx hb dX11_mark_32 rfl (lv_at hl 0 rfl) ?_
    refine lv_iload_n hx hb dX11_mark_33 rfl (lv_at hl 1 rfl) ?_
    refine lv_iload_n hx hb dX11_mark_34 rfl (lv_at hl 2 rfl) ?_
    refine lv_iload_n hx hb dX11_mark_35 rfl (lv_at hl 3 rfl) ?_
    rcases tx_some h with ⟨k9, e9, h⟩ | ⟨x9, e10, h⟩
    · refine tcT (fun st v t q => by obtain ⟨⟨r, u, -, hu, -⟩, -⟩ := q; cases hu) hG hX hP hD hS hA (pm1 (X := ([] : va_W)) (c := (wX11 cy a o S)) (Y := ([] : va_W)) (show (wX11 cy a o S) = ([] : va_W) ++ ((wX11 cy a o S) ++ ([] : va_W)) from by simp only [List.append_assoc, List.nil_append, List.append_nil] <;> rfl)) (fun h1 h2 => vx_runV (As := [.int p1, .int p2, .int p3]) (rest := []) ⟨hx, hb, hml, hown, hts⟩ (qX11_enter l hl9 D cy tt a o S p1 p2 p3 (H).size (Sum.inl k9) e9) (cwV 3 hts gX11_mark_X11_enter rfl rfl rfl (by decide +kernel) ⟨Nat.le_of_ble_eq_true rfl, Nat.le_of_ble_eq_true rfl⟩) ⟨h1, va_recv hK hP (ci := 11) (q0 := 0) rfl rfl, h2⟩ rfl rfl hl.1 rfl (lv_room (Nat.le_of_ble_eq_true rfl)) dX11_mark_36 ⟨(by rw [← h]; exact Nat.le_refl 1), (by rw [← h]; exact Nat.le_refl 6)⟩) (fun ce q9 H locs hP hS hce hcv hcl => ?_)
      exact vx_out (fun x hx9 => (htab x hx9).elim) hlocks hce hcv hcl (fun t ht hvm => xThrow rfl h hP hD hS (by rw [ht]; exact Nat.le_refl _) (fun q _ => by rw [ht])) hS.2.2 (by rw [← h]; exact Nat.le_refl 1) (by rw [← h]; exact Nat.le_refl 6)
    refine tcNm (ws' := (wX11 cy a o x9.2)) hG hX hP hD hS hA (pm1 (X := ([] : va_W)) (c := (wX11 cy a o S)) (Y := ([] : va_W)) (show (wX11 cy a o S) = ([] : va_W) ++ ((wX11 cy a o S) ++ ([] : va_W)) from by simp only [List.append_assoc, List.nil_append, List.append_nil] <;> rfl)) (pm1 (X := ([] : va_W)) (c := (wX11 cy a o x9.2)) (Y := ([] : va_W)) (show (wX11 cy a o x9.2) = ([] : va_W) ++ ((wX11 cy a o x9.2) ++ ([] : va_W)) from by simp only [List.append_assoc, List.nil_append, List.append_nil] <;> rfl)) (fun h1 h2 => vx_runV (As := [.int p1, .int p2, .int p3]) (rest := []) ⟨hx, hb, hml, hown, hts⟩ (qX11_enter l hl9 D cy tt a o S p1 p2 p3 (H).size (Sum.inr x9) e10) (cwV 3 hts gX11_mark_X11_enter rfl rfl rfl (by decide +kernel) ⟨Nat.le_of_ble_eq_true rfl, Nat.le_of_ble_eq_true rfl⟩) ⟨h1, va_recv hK hP (ci := 11) (q0 := 0) rfl rfl, h2⟩ rfl rfl hl.1 rfl (lv_room (Nat.le_of_ble_eq_true rfl)) dX11_mark_36 ⟨Nat.zero_le _, Nat.zero_le _⟩) (c2 := 0) (s2 := 0) rfl rfl (fun H locs hP hD hS => ?_)
    refine vx_ret (W.widen (k := cX rs) (n := sX rs) (Nat.zero_le _) (Nat.zero_le _) ?_)
    exact W.iret (v := x9.1) hx hb hr (fun t ht hW => ⟨⟨x9.1, x9.2, rfl, some_in h, by rw [ht]; exact hP, hD⟩, hS.F ht⟩) hS.2.2 dX11_mark_39
  refine lv_icmp_ne (tgt := 24) hx hb dX11_mark_16 (by decide) (fun cc => ?_) (fun cc => ?_)
  · have h := ite_n cc h
    refine lv_bipush (v := (100 : Int32)) hx hb dX11_mark_24 (by decide) ?_
    exact Jj4 (100 : Int32) ls h (lv_sub hl [0, 1, 2, 3] rfl)
  · have h := ite_p cc h
    refine lv_bipush (v := (10 : Int32)) hx hb dX11_mark_19 (by decide) ?_
    refine lv_goto (tgt := 26) hx hb dX11_mark_21 (by decide) ?_
    exact Jj4 (10 : Int32) ls h (lv_sub hl [0, 1, 2, 3] rfl)
set_option maxHeartbeats 4000000 in
set_option maxRecDepth 100000 in
theorem qX11_abstain (l : Launch) (hl9 : l.stackTraces = false) (D : va_G) (cy : Nat → ClassId) (tt : Nat → Nat) (a : Nat → Nat) (o : Nat) (S : SX11) (p1 : Int32) (p2 : Int32) (sz : Nat) (rs : Nat ⊕ (Int32 × SX11)) (h : DX11_abstain S p1 p2 = some rs) : vx_Met l yX11_abstain wsX11_abstain ({ frames := 9, cells := cX rs, slots := sX rs, locals := 229 } : Room) (xP D cy tt sz [.ref (a o), .int p1, .int p2] (wX11 cy a o S)) (va_Qi (fun r (u : SX11) => Sum.inr (r, u) = rs) (fun u t => mB D sz (wX11 cy a o S) (wX11 cy a o u) t) (va_A (wX11 cy a o S) sz)) (xC D sz (wX11 cy a o S) rs) (cX rs) (sX rs) (va_A (wX11 cy a o S) sz) := by
  refine vx_ofW (cc := cX11_abstain) (maxL := 3) (ret := (some .int)) (by decide) rfl ?_
  intro p e s m args below meth c s₁ B hml htab hv
  obtain ⟨rfl, hsz, hP, hG, hD0, hX⟩ := hv
  have hx := B.exec
  have hb := B.bytes
  have hr := B.returns
  have hts := atoms_spec (ws := wsX11_abstain) B.pre
  have hown : s.vm.findClass RX11 = some m.cls := findClass_of_methodNamed B.named
  have hlocks := B.notSynchronized
  have hK := hG.1
  subst hsz
  have hD := hD0.self (sz := s.heap.size)
  have hA : ∀ q : Nat, s.heap.size ≤ q → (va_A (wX11 cy a o S) s.heap.size) q := fun q h => Or.inr h
  have hS : va_S (va_A (wX11 cy a o S) s.heap.size) s.heap s.heap [] := va_S.rf
  have hl := lv_entry ([.ref (a o), .int p1, .int p2]) (n := 3) (Nat.le_of_ble_eq_true rfl)
  rw [lg_entry_eq]
  generalize (lg_sl ([.ref (a o), .int p1, .int p2]) ++ List.replicate (3 - (lg_sl ([.ref (a o), .int p1, .int p2])).length) Slot.unset).toArray = ls at hl ⊢
  have hl : lv_has ls 3 [(0, .ref (a o)), (1, .int p1), (2, .int p2)] := hl
  rw [DX11_abstain] at h
  refine lv_aload_n hx hb dX11_abstain_0 rfl (lv_at hl 0 rfl) ?_
  refine lv_iload_n hx hb dX11_abstain_1 rfl (lv_at hl 1 rfl) ?_
  refine lv_iload_n hx hb dX11_abstain_2 rfl (lv_at hl 2 rfl) ?_
  rcases tx_some h with ⟨k9, e9, h⟩ | ⟨x1, e2, h⟩
  · refine tcT (fun st v t q => by obtain ⟨⟨u, -, hu, -⟩, -⟩ := q; cases hu) hG hX hP hD hS hA (pm1 (X := ([] : va_W)) (c := (wX11n cy a o (gX11_now S))) (Y := ((wX5 cy a (o + 54) (gX11_records S)) ++ (wX8 cy a (o + 268) (gX11_text S)))) (show (wX11 cy a o S) = ([] : va_W) ++ ((wX11n cy a o (gX11_now S)) ++ ((wX5 cy a (o + 54) (gX11_records S)) ++ (wX8 cy a (o + 268) (gX11_text S)))) from by simp only [wX11, wX11n, List.append_assoc, List.nil_append, List.append_nil] <;> rfl)) (fun h1 h2 => vx_runV (As := [.int p1, .int p2]) (rest := []) ⟨hx, hb, hml, hown, hts⟩ (qX11_requireJurorAndEntrant l hl9 D cy tt a o (gX11_now S) p1 p2 (s.heap).size (Sum.inl k9) e9) (cwV 2 hts gX11_abstain_X11_requireJurorAndEntrant rfl rfl rfl (by decide +kernel) ⟨Nat.le_of_ble_eq_true rfl, Nat.le_of_ble_eq_true rfl⟩) ⟨h1, va_recv hK hP (ci := 11) (q0 := 0) rfl rfl, h2⟩ rfl rfl hl.1 rfl (lv_room (Nat.le_of_ble_eq_true rfl)) dX11_abstain_3 ⟨(by rw [← h]; exact Nat.le_refl 1), (by rw [← h]; exact Nat.le_refl 6)⟩) (fun ce q9 H locs hP hS hce hcv hcl => ?_)
    exact vx_out (fun x hx9 => (htab x hx9).elim) hlocks hce hcv hcl (fun t ht hvm => xThrow rfl h hP hD hS (by rw [ht]; exact Nat.le_refl _) (fun q _ => by rw [ht])) hS.2.2 (by rw [← h]; exact Nat.le_refl 1) (by rw [← h]; exact Nat.le_refl 6)
  refine tcNv hG hX hP hD hS hA (pm1 (X := ([] : va_W)) (c := (wX11n cy a o (gX11_now S))) (Y := ((wX5 cy a (o + 54) (gX11_records S)) ++ (wX8 cy a (o + 268) (gX11_text S)))) (show (wX11 cy a o S) = ([] : va_W) ++ ((wX11n cy a o (gX11_now S)) ++ ((wX5 cy a (o + 54) (gX11_records S)) ++ (wX8 cy a (o + 268) (gX11_text S)))) from by simp only [wX11, wX11n, List.append_assoc, List.nil_append, List.append_nil] <;> rfl)) (fun h1 h2 => vx_runV (As := [.int p1, .int p2]) (rest := []) ⟨hx, hb, hml, hown, hts⟩ (qX11_requireJurorAndEntrant l hl9 D cy tt a o (gX11_now S) p1 p2 (s.heap).size (Sum.inr x1) e2) (cwV 2 hts gX11_abstain_X11_requireJurorAndEntrant rfl rfl rfl (by decide +kernel) ⟨Nat.le_of_ble_eq_true rfl, Nat.le_of_ble_eq_true rfl⟩) ⟨h1, va_recv hK hP (ci := 11) (q0 := 0) rfl rfl, h2⟩ rfl rfl hl.1 rfl (lv_room (Nat.le_of_ble_eq_true rfl)) dX11_abstain_3 ⟨Nat.zero_le _, Nat.zero_le _⟩) (c2 := 0) (s2 := 0) rfl rfl (fun H locs hP hS => ?_)
  refine lv_aload_n hx hb dX11_abstain_6 rfl (lv_at hl 0 rfl) ?_
  refine lv_iload_n hx hb dX11_abstain_7 rfl (lv_at hl 1 rfl) ?_
  refine lv_iload_n hx hb dX11_abstain_8 rfl (lv_at hl 2 rfl) ?_
  refine lv_bipush (v := (-2 : Int32)) hx hb dX11_abstain_9 (by decide) ?_
  rcases tx_some h with ⟨k9, e9, h⟩ | ⟨x3, e4, h⟩
  · refine tcT (fun st v t q => by obtain ⟨⟨r, u, -, hu, -⟩, -⟩ := q; cases hu) hG hX hP hD hS hA (pm1 (X := ([] : va_W)) (c := (wX11 cy a o S)) (Y := ([] : va_W)) (show (wX11 cy a o S) = ([] : va_W) ++ ((wX11 cy a o S) ++ ([] : va_W)) from by simp only [List.append_assoc, List.nil_append, List.append_nil] <;> rfl)) (fun h1 h2 => vx_runV (As := [.int p1, .int p2, .int (-2 : Int32)]) (rest := []) ⟨hx, hb, hml, hown, hts⟩ (qX11_enter l hl9 D cy tt a o S p1 p2 (-2 : Int32) (H).size (Sum.inl k9) e9) (cwV 3 hts gX11_abstain_X11_enter rfl rfl rfl (by decide +kernel) ⟨Nat.le_of_ble_eq_true rfl, Nat.le_of_ble_eq_true rfl⟩) ⟨h1, va_recv hK hP (ci := 11) (q0 := 0) rfl rfl, h2⟩ rfl rfl hl.1 rfl (lv_room (Nat.le_of_ble_eq_true rfl)) dX11_abstain_11 ⟨(by rw [← h]; exact Nat.le_refl 1), (by rw [← h]; exact Nat.le_refl 6)⟩) (fun ce q9 H locs hP hS hce hcv hcl => ?_)
    exact vx_out (fun x hx9 => (htab x hx9).elim) hlocks hce hcv hcl (fun t ht hvm => xThrow rfl h hP hD hS (by rw [ht]; exact Nat.le_refl _) (fun q _ => by rw [ht])) hS.2.2 (by rw [← h]; exact Nat.le_refl 1) (by rw [← h]; exact Nat.le_refl 6)
  refine tcNm (ws' := (wX11 cy a o x3.2)) hG hX hP hD hS hA (pm1 (X := ([] : va_W)) (c := (wX11 cy a o S)) (Y := ([] : va_W)) (show (wX11 cy a o S) = ([] : va_W) ++ ((wX11 cy a o S) ++ ([] : va_W)) from by simp only [List.append_assoc, List.nil_append, List.append_nil] <;> rfl)) (pm1 (X := ([] : va_W)) (c := (wX11 cy a o x3.2)) (Y := ([] : va_W)) (show (wX11 cy a o x3.2) = ([] : va_W) ++ ((wX11 cy a o x3.2) ++ ([] : va_W)) from by simp only [List.append_assoc, List.nil_append, List.append_nil] <;> rfl)) (fun h1 h2 => vx_runV (As := [.int p1, .int p2, .int (-2 : Int32)]) (rest := []) ⟨hx, hb, hml, hown, hts⟩ (qX11_enter l hl9 D cy tt a o S p1 p2 (-2 : Int32) (H).size (Sum.inr x3) e4) (cwV 3 hts gX11_abstain_X11_enter rfl rfl rfl (by decide +kernel) ⟨Nat.le_of_ble_eq_true rfl, Nat.le_of_ble_eq_true rfl⟩) ⟨h1, va_recv hK hP (ci := 11) (q0 := 0) rfl rfl, h2⟩ rfl rfl hl.1 rfl (lv_room (Nat.le_of_ble_eq_true rfl)) dX11_abstain_11 ⟨Nat.zero_le _, Nat.zero_le _⟩) (c2 := 0) (s2 := 0) rfl rfl (fun H locs hP hD hS => ?_)
  refine vx_ret (W.widen (k := cX rs) (n := sX rs) (Nat.zero_le _) (Nat.zero_le _) ?_)
  exact W.iret (v := x3.1) hx hb hr (fun t ht hW => ⟨⟨x3.1, x3.2, rfl, some_in h, by rw [ht]; exact hP, hD⟩, hS.F ht⟩) hS.2.2 dX11_abstain_14
set_option maxHeartbeats 4000000 in
set_option maxRecDepth 100000 in
theorem qX11_close (l : Launch) (hl9 : l.stackTraces = false) (D : va_G) (cy : Nat → ClassId) (tt : Nat → Nat) (a : Nat → Nat) (o : Nat) (S : SX11)  (sz : Nat) (rs : Nat ⊕ (Int32 × SX11)) (h : DX11_close S = some rs) : vx_Met l yX11_close wsX11_close ({ frames := 7, cells := cX rs, slots := sX rs, locals := 206 } : Room) (xP D cy tt sz [.ref (a o)] (wX11 cy a o S)) (va_Qi (fun r (u : SX11) => Sum.inr (r, u) = rs) (fun u t => mB D sz (wX11 cy a o S) (wX11 cy a o u) t) (va_A (wX11 cy a o S) sz)) (xC D sz (wX11 cy a o S) rs) (cX rs) (sX rs) (va_A (wX11 cy a o S) sz) := by
  refine vx_ofW (cc := cX11_close) (maxL := 2) (ret := (some .int)) (by decide) rfl ?_
  intro p e s m args below meth c s₁ B hml htab hv
  obtain ⟨rfl, hsz, hP, hG, hD0, hX⟩ := hv
  have hx := B.exec
  have hb := B.bytes
  have hr := B.returns
  have hts := atoms_spec (ws := wsX11_close) B.pre
  have hown : s.vm.findClass RX11 = some m.cls := findClass_of_methodNamed B.named
  have hlocks := B.notSynchronized
  have hK := hG.1
  subst hsz
  have hD := hD0.self (sz := s.heap.size)
  have hA : ∀ q : Nat, s.heap.size ≤ q → (va_A (wX11 cy a o S) s.heap.size) q := fun q h => Or.inr h
  have hS : va_S (va_A (wX11 cy a o S) s.heap.size) s.heap s.heap [] := va_S.rf
  have hinX11 := (by decide +kernel : ∀ w ∈ wsX110, w ∈ wsX11_close)
  have hf10 := hts (.fieldLink RX11 10 "PianoRounds" "now" "LPianoRounds$Competition;") (by decide +kernel)
  have hf19 := hts (.fieldLink RX11 19 "PianoRounds" "records" "LPianoRounds$Records;") (by decide +kernel)
  have hinX0 := (by decide +kernel : ∀ w ∈ wsX00, w ∈ wsX11_close)
  have hf38 := va_Nw.use (A := ([.ref (a o)] : List Value).toArray) (U := s) (w := .fieldLinkNest "PianoRounds" 38 "PianoRounds$Competition" "state" "I" "PianoRounds") rfl (hG.2.1 _ (by decide +kernel))
  have hl := lv_entry ([.ref (a o)]) (n := 2) (Nat.le_of_ble_eq_true rfl)
  rw [lg_entry_eq]
  generalize (lg_sl ([.ref (a o)]) ++ List.replicate (2 - (lg_sl ([.ref (a o)])).length) Slot.unset).toArray = ls at hl ⊢
  have hl : lv_has ls 2 [(0, .ref (a o))] := hl
  rw [DX11_close] at h
  refine lv_aload_n hx hb dX11_close_0 rfl (lv_at hl 0 rfl) ?_
  refine va_get (D := D) (ci := 11) (v := .ref (a (o + 1))) (C := RX11) (T := TX11) (N := 3) hx hb hts hinX11 hown hK hP 0 rfl rfl 0 (by decide) hf10 (fun _ h9 => h9) rfl dX11_close_1 ?_
  obtain ⟨x1, e2, h⟩ := bd_some h
  refine pcV (As := []) (rest := []) (q0 := 0) (qX0_canBeClosed l D cy a (o + 1) (gX11_now S)  x1 e2) ⟨hx, hb, hml, hown, hts⟩ (cwV 0 hts gX11_close_X0_canBeClosed rfl rfl rfl (by decide +kernel) ⟨Nat.le_of_ble_eq_true rfl, Nat.le_of_ble_eq_true rfl⟩) hG (P_seg (X := (hX11 a o S)) (c := (wX0 cy a (o + 1) (gX11_now S))) (Y := ((wX5 cy a (o + 54) (gX11_records S)) ++ (wX8 cy a (o + 268) (gX11_text S)))) hP (by simp only [wX11, List.append_assoc, List.nil_append, List.append_nil] <;> rfl)) rfl rfl rfl hl.1 rfl (Nat.le_of_ble_eq_true rfl) dX11_close_4 ⟨Nat.zero_le _, Nat.zero_le _⟩ ?_
  rcases tx_some h with ⟨k9, e9, h⟩ | ⟨x3, e4, h⟩
  · refine tcT (fun st v t q => by obtain ⟨⟨u, -, hu, -⟩, -⟩ := q; cases hu) hG hX hP hD hS hA (pm0 (wX11 cy a o S)) (fun h1 h2 => vx_runS (As := [.int x1]) (rest := []) ⟨hx, hb, hml, hown, hts⟩ (qX11_requireState l hl9 D cy tt  x1 (s.heap).size (Sum.inl k9) e9) (va_cwS 1 hts gX11_close_X11_requireState rfl rfl rfl (by decide +kernel) ⟨Nat.le_of_ble_eq_true rfl, Nat.le_of_ble_eq_true rfl⟩) ⟨h1, h2⟩ rfl rfl hl.1 rfl (lv_room (Nat.le_of_ble_eq_true rfl)) dX11_close_7 ⟨(by rw [← h]; exact Nat.le_refl 1), (by rw [← h]; exact Nat.le_refl 6)⟩) (fun ce q9 H locs hP hS hce hcv hcl => ?_)
    exact vx_out (fun x hx9 => (htab x hx9).elim) hlocks hce hcv hcl (fun t ht hvm => xThrow rfl h hP hD hS (by rw [ht]; exact Nat.le_refl _) (fun q _ => by rw [ht])) hS.2.2 (by rw [← h]; exact Nat.le_refl 1) (by rw [← h]; exact Nat.le_refl 6)
  refine tcNv hG hX hP hD hS hA (pm0 (wX11 cy a o S)) (fun h1 h2 => vx_runS (As := [.int x1]) (rest := []) ⟨hx, hb, hml, hown, hts⟩ (qX11_requireState l hl9 D cy tt  x1 (s.heap).size (Sum.inr x3) e4) (va_cwS 1 hts gX11_close_X11_requireState rfl rfl rfl (by decide +kernel) ⟨Nat.le_of_ble_eq_true rfl, Nat.le_of_ble_eq_true rfl⟩) ⟨h1, h2⟩ rfl rfl hl.1 rfl (lv_room (Nat.le_of_ble_eq_true rfl)) dX11_close_7 ⟨Nat.zero_le _, Nat.zero_le _⟩) (c2 := 0) (s2 := 0) rfl rfl (fun H locs hP hS => ?_)
  refine lv_aload_n hx hb dX11_close_10 rfl (lv_at hl 0 rfl) ?_
  refine va_get (D := D) (ci := 11) (v := .ref (a (o + 54))) (C := RX11) (T := TX11) (N := 3) hx hb hts hinX11 hown hK hP 0 rfl rfl 1 (by decide) hf19 (fun _ h9 => h9) rfl dX11_close_11 ?_
  refine lv_aload_n hx hb dX11_close_14 rfl (lv_at hl 0 rfl) ?_
  refine va_get (D := D) (ci := 11) (v := .ref (a (o + 1))) (C := RX11) (T := TX11) (N := 3) hx hb hts hinX11 hown hK hP 0 rfl rfl 0 (by decide) hf10 (fun _ h9 => h9) rfl dX11_close_15 ?_
  obtain ⟨x5, e6, h⟩ := bd_some h
  refine smVv (As := [.ref (a (o + 1))]) (rest := []) (ws' := (wX11 cy a o (uX11_records S x5))) (q0 := 0) (qX5_keep l D cy a (o + 54) a (o + 1) (gX11_records S) (gX11_now S)  (H).size x5 e6) ⟨hx, hb, hml, hown, hts⟩ (cwV 1 hts gX11_close_X5_keep rfl rfl rfl (by decide +kernel) ⟨Nat.le_of_ble_eq_true rfl, Nat.le_of_ble_eq_true rfl⟩) hG hP hD hS hA (pm2r (X := (hX11 a o S)) (c1 := (wX5 cy a (o + 54) (gX11_records S))) (Y := ([] : va_W)) (c2 := (wX0 cy a (o + 1) (gX11_now S))) (Z := (wX8 cy a (o + 268) (gX11_text S))) (show (wX11 cy a o S) = (hX11 a o S) ++ ((wX0 cy a (o + 1) (gX11_now S)) ++ (([] : va_W) ++ ((wX5 cy a (o + 54) (gX11_records S)) ++ (wX8 cy a (o + 268) (gX11_text S))))) from by simp only [wX11, List.append_assoc, List.nil_append, List.append_nil] <;> rfl)) (pm2r (X := (hX11 a o S)) (c1 := (wX5 cy a (o + 54) x5)) (Y := ([] : va_W)) (c2 := (wX0 cy a (o + 1) (gX11_now S))) (Z := (wX8 cy a (o + 268) (gX11_text S))) (show (wX11 cy a o (uX11_records S x5)) = (hX11 a o S) ++ ((wX0 cy a (o + 1) (gX11_now S)) ++ (([] : va_W) ++ ((wX5 cy a (o + 54) x5) ++ (wX8 cy a (o + 268) (gX11_text S))))) from by simp only [wX11, List.append_assoc, List.nil_append, List.append_nil] <;> rfl)) rfl rfl rfl hl.1 rfl (Nat.le_of_ble_eq_true rfl) dX11_close_18 ⟨Nat.zero_le _, Nat.zero_le _⟩ (fun H locs hP hD hS => ?_)
  obtain ⟨S7, eS8, h⟩ := lt_elim h
  have hP : va_P D vwCl (wX11 cy a o S7) H := by rw [eS8]; exact hP
  have hD : va_D (va_A (wX11 cy a o S) s.heap.size) (wX11 cy a o S7) := by rw [eS8]; exact hD
  refine lv_aload_n hx hb dX11_close_21 rfl (lv_at hl 0 rfl) ?_
  refine va_get (D := D) (ci := 11) (v := .ref (a (o + 1))) (C := RX11) (T := TX11) (N := 3) hx hb hts hinX11 hown hK hP 0 rfl rfl 0 (by decide) hf10 (fun _ h9 => h9) rfl dX11_close_22 ?_
  refine va_getN (D := D) (ci := 0) (v := .int (gX0_state (gX11_now S7))) (C := RX0) (T := TX0) (N := 14) hx hb hts hinX0 hown hK hP 1 rfl rfl 0 (by decide) hf38 (fun _ h9 => h9) rfl dX11_close_25 ?_
  refine lv_iconst (v := (1 : Int32)) hx hb dX11_close_28 (by decide) ?_
  obtain ⟨j11, hj11, h⟩ := jn_elim h
  have Jj11 : ∀ (x9 : Int32) (S10 : SX11) (H : Heap) (locs : List Loc) (ls : Array Slot), j11 x9 S10 = some rs → va_P D vwCl (wX11 cy a o S10) H → va_D (va_A (wX11 cy a o S) s.heap.size) (wX11 cy a o S10) → va_S (va_A (wX11 cy a o S) s.heap.size) s.heap H locs → lv_has ls 2 [(0, .ref (a o))] → W p l e (headSpec wsX11_close ({ frames := 7, cells := cX rs, slots := sX rs, locals := 206 } : Room)).room s m ([.ref (a o)] : List Value).toArray below meth c H locs 0 0 (vx_MQ below (va_Qi (fun r (u : SX11) => Sum.inr (r, u) = rs) (fun u t => mB D s.heap.size (wX11 cy a o S) (wX11 cy a o u) t) (va_A (wX11 cy a o S) s.heap.size)) (xC D s.heap.size (wX11 cy a o S) rs) ([.ref (a o)] : List Value).toArray s (cX rs) (sX rs) (va_A (wX11 cy a o S) s.heap.size)) (F0 m 49 ls [.int x9]) := by
    intro x9 S10 H locs ls h hP hD hS hl
    rw [hj11] at h
    refine lv_istore_n (lv' := [(1, .int x9), (0, .ref (a o))]) hx hb dX11_close_49 rfl hl (by decide) rfl (fun ls hl => ?_)
    refine lv_iload_n hx hb dX11_close_50 rfl (lv_at hl 0 rfl) ?_
    obtain ⟨j13, hj13, h⟩ := jn_elim h
    have Jj13 : ∀ (S12 : SX11) (H : Heap) (locs : List Loc) (ls : Array Slot), j13 S12 = some rs → va_P D vwCl (wX11 cy a o S12) H → va_D (va_A (wX11 cy a o S) s.heap.size) (wX11 cy a o S12) → va_S (va_A (wX11 cy a o S) s.heap.size) s.heap H locs → lv_has ls 2 [(0, .ref (a o))] → W p l e (headSpec wsX11_close ({ frames := 7, cells := cX rs, slots := sX rs, locals := 206 } : Room)).room s m ([.ref (a o)] : List Value).toArray below meth c H locs 0 0 (vx_MQ below (va_Qi (fun r (u : SX11) => Sum.inr (r, u) = rs) (fun u t => mB D s.heap.size (wX11 cy a o S) (wX11 cy a o u) t) (va_A (wX11 cy a o S) s.heap.size)) (xC D s.heap.size (wX11 cy a o S) rs) ([.ref (a o)] : List Value).toArray s (cX rs) (sX rs) (va_A (wX11 cy a o S) s.heap.size)) (F0 m 61 ls []) := by
      intro S12 H locs ls h hP hD hS hl
      rw [hj13] at h
      refine lv_aload_n hx hb dX11_close_61 rfl (lv_at hl 0 rfl) ?_
      refine va_get (D := D) (ci := 11) (v := .ref (a (o + 1))) (C := RX11) (T := TX11) (N := 3) hx hb hts hinX11 hown hK hP 0 rfl rfl 0 (by decide) hf10 (fun _ h9 => h9) rfl dX11_close_62 ?_
      refine va_getN (D := D) (ci := 0) (v := .int (gX0_state (gX11_now S12))) (C := RX0) (T := TX0) (N := 14) hx hb hts hinX0 hown hK hP 1 rfl rfl 0 (by decide) hf38 (fun _ h9 => h9) rfl dX11_close_65 ?_
      refine vx_ret (W.widen (k := cX rs) (n := sX rs) (Nat.zero_le _) (Nat.zero_le _) ?_)
      exact W.iret (v := (gX0_state (gX11_now S12))) hx hb hr (fun t ht hW => ⟨⟨(gX0_state (gX11_now S12)), S12, rfl, some_in h, by rw [ht]; exact hP, hD⟩, hS.F ht⟩) hS.2.2 dX11_close_68
    refine lv_if_eq (tgt := 61) hx hb dX11_close_51 (by decide) (fun cc => ?_) (fun cc => ?_)
    · have h := ite_p cc h
      exact Jj13 S10 H locs ls h hP hD hS (lv_sub hl [1] rfl)
    · have h := ite_n cc h
      refine lv_aload_n hx hb dX11_close_54 rfl (lv_at hl 1 rfl) ?_
      refine va_get (D := D) (ci := 11) (v := .ref (a (o + 1))) (C := RX11) (T := TX11) (N := 3) hx hb hts hinX11 hown hK hP 0 rfl rfl 0 (by decide) hf10 (fun _ h9 => h9) rfl dX11_close_55 ?_
      obtain ⟨x14, e15, h⟩ := bd_some h
      refine smVv (As := []) (rest := []) (ws' := (wX11 cy a o (uX11_now S10 x14))) (q0 := 0) (qX0_goOn l D cy a (o + 1) (gX11_now S10)  (H).size x14 e15) ⟨hx, hb, hml, hown, hts⟩ (cwV 0 hts gX11_close_X0_goOn rfl rfl rfl (by decide +kernel) ⟨Nat.le_of_ble_eq_true rfl, Nat.le_of_ble_eq_true rfl⟩) hG hP hD hS hA (pm1 (X := (hX11 a o S10)) (c := (wX0 cy a (o + 1) (gX11_now S10))) (Y := ((wX5 cy a (o + 54) (gX11_records S10)) ++ (wX8 cy a (o + 268) (gX11_text S10)))) (show (wX11 cy a o S10) = (hX11 a o S10) ++ ((wX0 cy a (o + 1) (gX11_now S10)) ++ ((wX5 cy a (o + 54) (gX11_records S10)) ++ (wX8 cy a (o + 268) (gX11_text S10)))) from by simp only [wX11, List.append_assoc, List.nil_append, List.append_nil] <;> rfl)) (pm1 (X := (hX11 a o S10)) (c := (wX0 cy a (o + 1) x14)) (Y := ((wX5 cy a (o + 54) (gX11_records S10)) ++ (wX8 cy a (o + 268) (gX11_text S10)))) (show (wX11 cy a o (uX11_now S10 x14)) = (hX11 a o S10) ++ ((wX0 cy a (o + 1) x14) ++ ((wX5 cy a (o + 54) (gX11_records S10)) ++ (wX8 cy a (o + 268) (gX11_text S10)))) from by simp only [wX11, List.append_assoc, List.nil_append, List.append_nil] <;> rfl)) rfl rfl rfl hl.1 rfl (Nat.le_of_ble_eq_true rfl) dX11_close_58 ⟨Nat.zero_le _, Nat.zero_le _⟩ (fun H locs hP hD hS => ?_)
      obtain ⟨S16, eS17, h⟩ := lt_elim h
      have hP : va_P D vwCl (wX11 cy a o S16) H := by rw [eS17]; exact hP
      have hD : va_D (va_A (wX11 cy a o S) s.heap.size) (wX11 cy a o S16) := by rw [eS17]; exact hD
      exact Jj13 S16 H locs ls h hP hD hS (lv_sub hl [1] rfl)
  refine lv_icmp_ne (tgt := 42) hx hb dX11_close_29 (by decide) (fun cc => ?_) (fun cc => ?_)
  · have h := ite_n cc h
    refine lv_aload_n hx hb dX11_close_42 rfl (lv_at hl 0 rfl) ?_
    refine va_get (D := D) (ci := 11) (v := .ref (a (o + 1))) (C := RX11) (T := TX11) (N := 3) hx hb hts hinX11 hown hK hP 0 rfl rfl 0 (by decide) hf10 (fun _ h9 => h9) rfl dX11_close_43 ?_
    obtain ⟨x18, e19, h⟩ := bd_some h
    refine smVi (As := []) (rest := []) (ws' := (wX11 cy a o (uX11_now S7 x18.2))) (q0 := 0) (qX0_decideTieRound l D cy a (o + 1) (gX11_now S7)  (H).size x18 e19) ⟨hx, hb, hml, hown, hts⟩ (cwV 0 hts gX11_close_X0_decideTieRound rfl rfl rfl (by decide +kernel) ⟨Nat.le_of_ble_eq_true rfl, Nat.le_of_ble_eq_true rfl⟩) hG hP hD hS hA (pm1 (X := (hX11 a o S7)) (c := (wX0 cy a (o + 1) (gX11_now S7))) (Y := ((wX5 cy a (o + 54) (gX11_records S7)) ++ (wX8 cy a (o + 268) (gX11_text S7)))) (show (wX11 cy a o S7) = (hX11 a o S7) ++ ((wX0 cy a (o + 1) (gX11_now S7)) ++ ((wX5 cy a (o + 54) (gX11_records S7)) ++ (wX8 cy a (o + 268) (gX11_text S7)))) from by simp only [wX11, List.append_assoc, List.nil_append, List.append_nil] <;> rfl)) (pm1 (X := (hX11 a o S7)) (c := (wX0 cy a (o + 1) x18.2)) (Y := ((wX5 cy a (o + 54) (gX11_records S7)) ++ (wX8 cy a (o + 268) (gX11_text S7)))) (show (wX11 cy a o (uX11_now S7 x18.2)) = (hX11 a o S7) ++ ((wX0 cy a (o + 1) x18.2) ++ ((wX5 cy a (o + 54) (gX11_records S7)) ++ (wX8 cy a (o + 268) (gX11_text S7)))) from by simp only [wX11, List.append_assoc, List.nil_append, List.append_nil] <;> rfl)) rfl rfl rfl hl.1 rfl (Nat.le_of_ble_eq_true rfl) dX11_close_46 ⟨Nat.zero_le _, Nat.zero_le _⟩ (fun H locs hP hD hS => ?_)
    obtain ⟨S20, eS21, h⟩ := lt_elim h
    have hP : va_P D vwCl (wX11 cy a o S20) H := by rw [eS21]; exact hP
    have hD : va_D (va_A (wX11 cy a o S) s.heap.size) (wX11 cy a o S20) := by rw [eS21]; exact hD
    exact Jj11 x18.1 S20 H locs ls h hP hD hS (lv_sub hl [0] rfl)
  · have h := ite_p cc h
    refine lv_aload_n hx hb dX11_close_32 rfl (lv_at hl 0 rfl) ?_
    refine va_get (D := D) (ci := 11) (v := .ref (a (o + 1))) (C := RX11) (T := TX11) (N := 3) hx hb hts hinX11 hown hK hP 0 rfl rfl 0 (by decide) hf10 (fun _ h9 => h9) rfl dX11_close_33 ?_
    obtain ⟨x22, e23, h⟩ := bd_some h
    refine smVi (As := []) (rest := []) (ws' := (wX11 cy a o (uX11_now S7 x22.2))) (q0 := 0) (qX0_decideRound l D cy a (o + 1) (gX11_now S7)  (H).size x22 e23) ⟨hx, hb, hml, hown, hts⟩ (cwV 0 hts gX11_close_X0_decideRound rfl rfl rfl (by decide +kernel) ⟨Nat.le_of_ble_eq_true rfl, Nat.le_of_ble_eq_true rfl⟩) hG hP hD hS hA (pm1 (X := (hX11 a o S7)) (c := (wX0 cy a (o + 1) (gX11_now S7))) (Y := ((wX5 cy a (o + 54) (gX11_records S7)) ++ (wX8 cy a (o + 268) (gX11_text S7)))) (show (wX11 cy a o S7) = (hX11 a o S7) ++ ((wX0 cy a (o + 1) (gX11_now S7)) ++ ((wX5 cy a (o + 54) (gX11_records S7)) ++ (wX8 cy a (o + 268) (gX11_text S7)))) from by simp only [wX11, List.append_assoc, List.nil_append, List.append_nil] <;> rfl)) (pm1 (X := (hX11 a o S7)) (c := (wX0 cy a (o + 1) x22.2)) (Y := ((wX5 cy a (o + 54) (gX11_records S7)) ++ (wX8 cy a (o + 268) (gX11_text S7)))) (show (wX11 cy a o (uX11_now S7 x22.2)) = (hX11 a o S7) ++ ((wX0 cy a (o + 1) x22.2) ++ ((wX5 cy a (o + 54) (gX11_records S7)) ++ (wX8 cy a (o + 268) (gX11_text S7)))) from by simp only [wX11, List.append_assoc, List.nil_append, List.append_nil] <;> rfl)) rfl rfl rfl hl.1 rfl (Nat.le_of_ble_eq_true rfl) dX11_close_36 ⟨Nat.zero_le _, Nat.zero_le _⟩ (fun H locs hP hD hS => ?_)
    obtain ⟨S24, eS25, h⟩ := lt_elim h
    have hP : va_P D vwCl (wX11 cy a o S24) H := by rw [eS25]; exact hP
    have hD : va_D (va_A (wX11 cy a o S) s.heap.size) (wX11 cy a o S24) := by rw [eS25]; exact hD
    refine lv_goto (tgt := 49) hx hb dX11_close_39 (by decide) ?_
    exact Jj11 x22.1 S24 H locs ls h hP hD hS (lv_sub hl [0] rfl)
