set_option maxHeartbeats 4000000 in
set_option maxRecDepth 100000 in
theorem qX9_end (l : Launch) (D : va_G) (cy : Nat → ClassId) (a : Nat → Nat) (o : Nat) (S : SX9)  (sz : Nat) (rs : SX9) (h : DX9_end S = some rs) : Met l yX9_end wsX9_end ({ frames := 2, cells := 0, slots := 0, locals := 44 } : Room) (mP D cy sz [.ref (a o)] (wX9 cy a o S)) (va_Qv (fun (u : SX9) => u = rs) (fun u t => mB D sz (wX9 cy a o S) (wX9 cy a o u) t) (va_A (wX9 cy a o S) sz)) 0 0 (va_A (wX9 cy a o S) sz) := by
  refine Met.ofW (cc := cX9_end) (maxL := 1) (ret := none) (by decide) rfl ?_
  intro p e s m args below meth c s₁ B hml hv
  obtain ⟨rfl, hsz, hP, hG, hD0⟩ := hv
  have hx := B.exec
  have hb := B.bytes
  have hr := B.returns
  have hts := atoms_spec (ws := wsX9_end) B.pre
  have hown : s.vm.findClass RX9 = some m.cls := findClass_of_methodNamed B.named
  have hlocks := B.notSynchronized
  have hK := hG.1
  subst hsz
  have hD := hD0.self (sz := s.heap.size)
  have hA : ∀ q : Nat, s.heap.size ≤ q → (va_A (wX9 cy a o S) s.heap.size) q := fun q h => Or.inr h
  have hS : va_S (va_A (wX9 cy a o S) s.heap.size) s.heap s.heap [] := va_S.rf
  have hinX9 := (by decide +kernel : ∀ w ∈ wsX90, w ∈ wsX9_end)
  have hf22 := hts (.fieldLink RX9 22 "PianoRounds$Tie" "number" "I") (by decide +kernel)
  have hf26 := hts (.fieldLink RX9 26 "PianoRounds$Tie" "places" "I") (by decide +kernel)
  have hf9 := hts (.fieldLink RX9 9 "PianoRounds$Tie" "tied" "[I") (by decide +kernel)
  have hf18 := hts (.fieldLink RX9 18 "PianoRounds$Tie" "sheet" "LPianoRounds$Sheet;") (by decide +kernel)
  have hl := lv_entry ([.ref (a o)]) (n := 1) (Nat.le_of_ble_eq_true rfl)
  rw [lg_entry_eq]
  generalize (lg_sl ([.ref (a o)]) ++ List.replicate (1 - (lg_sl ([.ref (a o)])).length) Slot.unset).toArray = ls at hl ⊢
  have hl : lv_has ls 1 [(0, .ref (a o))] := hl
  rw [DX9_end] at h
  refine lv_aload_n hx hb dX9_end_0 rfl (lv_at hl 0 rfl) ?_
  refine lv_iconst (v := (0 : Int32)) hx hb dX9_end_1 (by decide) ?_
  refine va_put (D := D) (ci := 9) (v := .int (0 : Int32)) (ty := .int) (C := RX9) (T := TX9) (N := 4) hx hb hts hinX9 tyX9 tyX9_ok nmX9 hown hK hP hD hS 0 rfl rfl 0 (by decide) hf22 (fun _ h9 => h9) rfl (by decide +kernel) rfl rfl (Nat.le_of_ble_eq_true rfl) dX9_end_2 (fun H locs hP hD hS => ?_)
  have hP : va_P D vwCl (wX9 cy a o (uX9_number S (0 : Int32))) H := hP
  have hD : va_D (va_A (wX9 cy a o S) s.heap.size) (wX9 cy a o (uX9_number S (0 : Int32))) := hD
  obtain ⟨S1, eS2, h⟩ := lt_elim h
  have hP : va_P D vwCl (wX9 cy a o S1) H := by rw [eS2]; exact hP
  have hD : va_D (va_A (wX9 cy a o S) s.heap.size) (wX9 cy a o S1) := by rw [eS2]; exact hD
  refine lv_aload_n hx hb dX9_end_5 rfl (lv_at hl 0 rfl) ?_
  refine lv_iconst (v := (0 : Int32)) hx hb dX9_end_6 (by decide) ?_
  refine va_put (D := D) (ci := 9) (v := .int (0 : Int32)) (ty := .int) (C := RX9) (T := TX9) (N := 4) hx hb hts hinX9 tyX9 tyX9_ok nmX9 hown hK hP hD hS 0 rfl rfl 1 (by decide) hf26 (fun _ h9 => h9) rfl (by decide +kernel) rfl rfl (Nat.le_of_ble_eq_true rfl) dX9_end_7 (fun H locs hP hD hS => ?_)
  have hP : va_P D vwCl (wX9 cy a o (uX9_places S1 (0 : Int32))) H := hP
  have hD : va_D (va_A (wX9 cy a o S) s.heap.size) (wX9 cy a o (uX9_places S1 (0 : Int32))) := hD
  obtain ⟨S3, eS4, h⟩ := lt_elim h
  have hP : va_P D vwCl (wX9 cy a o S3) H := by rw [eS4]; exact hP
  have hD : va_D (va_A (wX9 cy a o S) s.heap.size) (wX9 cy a o S3) := by rw [eS4]; exact hD
  refine lv_aload_n hx hb dX9_end_10 rfl (lv_at hl 0 rfl) ?_
  refine va_get (D := D) (ci := 9) (v := .ref (a (o + 1))) (C := RX9) (T := TX9) (N := 4) hx hb hts hinX9 hown hK hP 0 rfl rfl 2 (by decide) hf9 (fun _ h9 => h9) rfl dX9_end_11 ?_
  refine lv_iconst (v := (0 : Int32)) hx hb dX9_end_14 (by decide) ?_
  refine mcC1 (b := (a (o + 1))) (e0 := .inl (cy 0, 12, .inl (gX9_tied S3))) (e1 := .inl (cy 0, 12, .inl (fun _ => (0 : Int32)))) (ws' := (wX9 cy a o (uX9_tied S3 (fun _ => (0 : Int32))))) (fun hp => va_runS (As := [.ref (a (o + 1)), .int (0 : Int32)]) (rest := []) ⟨hx, hb, hml, hown, hts⟩ (qJ7_fill l D cy (a (o + 1)) 12 (by decide) (gX9_tied S3) (0 : Int32) (H).size) (va_cwS 2 hts gX9_end_J7_fill_53178 rfl rfl rfl (by decide +kernel) ⟨Nat.le_of_ble_eq_true rfl, Nat.le_of_ble_eq_true rfl⟩) hp rfl rfl hl.1 rfl (lv_room (Nat.le_of_ble_eq_true rfl)) dX9_end_15 ⟨Nat.zero_le _, Nat.zero_le _⟩) hG hP hD hS hA 1 rfl rfl (fun H locs hP hD hS => ?_)
  obtain ⟨S5, eS6, h⟩ := lt_elim h
  have hP : va_P D vwCl (wX9 cy a o S5) H := by rw [eS6]; exact hP
  have hD : va_D (va_A (wX9 cy a o S) s.heap.size) (wX9 cy a o S5) := by rw [eS6]; exact hD
  refine lv_aload_n hx hb dX9_end_18 rfl (lv_at hl 0 rfl) ?_
  refine va_get (D := D) (ci := 9) (v := .ref (a (o + 2))) (C := RX9) (T := TX9) (N := 4) hx hb hts hinX9 hown hK hP 0 rfl rfl 3 (by decide) hf18 (fun _ h9 => h9) rfl dX9_end_19 ?_
  obtain ⟨x7, e8, h⟩ := bd_some h
  refine smVv (As := []) (rest := []) (ws' := (wX9 cy a o (uX9_sheet S5 x7))) (q0 := 0) (qX6_wipe l D cy a (o + 2) (gX9_sheet S5)  (H).size x7 e8) ⟨hx, hb, hml, hown, hts⟩ (cwV 0 hts gX9_end_X6_wipe rfl rfl rfl (by decide +kernel) ⟨Nat.le_of_ble_eq_true rfl, Nat.le_of_ble_eq_true rfl⟩) hG hP hD hS hA (pm1 (X := ((hX9 a o S5) ++ (aW cy a (o + 1) 12 (gX9_tied S5)))) (c := (wX6 cy a (o + 2) (gX9_sheet S5))) (Y := ([] : va_W)) (show (wX9 cy a o S5) = ((hX9 a o S5) ++ (aW cy a (o + 1) 12 (gX9_tied S5))) ++ ((wX6 cy a (o + 2) (gX9_sheet S5)) ++ ([] : va_W)) from by simp only [wX9, List.append_assoc, List.nil_append, List.append_nil] <;> rfl)) (pm1 (X := ((hX9 a o S5) ++ (aW cy a (o + 1) 12 (gX9_tied S5)))) (c := (wX6 cy a (o + 2) x7)) (Y := ([] : va_W)) (show (wX9 cy a o (uX9_sheet S5 x7)) = ((hX9 a o S5) ++ (aW cy a (o + 1) 12 (gX9_tied S5))) ++ ((wX6 cy a (o + 2) x7) ++ ([] : va_W)) from by simp only [wX9, List.append_assoc, List.nil_append, List.append_nil] <;> rfl)) rfl rfl rfl hl.1 rfl (Nat.le_of_ble_eq_true rfl) dX9_end_22 ⟨Nat.zero_le _, Nat.zero_le _⟩ (fun H locs hP hD hS => ?_)
  obtain ⟨S9, eS10, h⟩ := lt_elim h
  have hP : va_P D vwCl (wX9 cy a o S9) H := by rw [eS10]; exact hP
  have hD : va_D (va_A (wX9 cy a o S) s.heap.size) (wX9 cy a o S9) := by rw [eS10]; exact hD
  exact W.vret hx hb hr (fun t ht hW => ⟨⟨S9, rfl, some_in h, by rw [ht]; exact hP, hD⟩, hS.F ht⟩) hS.2.2 dX9_end_25
set_option maxHeartbeats 4000000 in
set_option maxRecDepth 100000 in
theorem qX0_goOn (l : Launch) (D : va_G) (cy : Nat → ClassId) (a : Nat → Nat) (o : Nat) (S : SX0)  (sz : Nat) (rs : SX0) (h : DX0_goOn S = some rs) : Met l yX0_goOn wsX0_goOn ({ frames := 5, cells := 0, slots := 0, locals := 121 } : Room) (mP D cy sz [.ref (a o)] (wX0 cy a o S)) (va_Qv (fun (u : SX0) => u = rs) (fun u t => mB D sz (wX0 cy a o S) (wX0 cy a o u) t) (va_A (wX0 cy a o S) sz)) 0 0 (va_A (wX0 cy a o S) sz) := by
  refine Met.ofW (cc := cX0_goOn) (maxL := 1) (ret := none) (by decide) rfl ?_
  intro p e s m args below meth c s₁ B hml hv
  obtain ⟨rfl, hsz, hP, hG, hD0⟩ := hv
  have hx := B.exec
  have hb := B.bytes
  have hr := B.returns
  have hts := atoms_spec (ws := wsX0_goOn) B.pre
  have hown : s.vm.findClass RX0 = some m.cls := findClass_of_methodNamed B.named
  have hlocks := B.notSynchronized
  have hK := hG.1
  subst hsz
  have hD := hD0.self (sz := s.heap.size)
  have hA : ∀ q : Nat, s.heap.size ≤ q → (va_A (wX0 cy a o S) s.heap.size) q := fun q h => Or.inr h
  have hS : va_S (va_A (wX0 cy a o S) s.heap.size) s.heap s.heap [] := va_S.rf
  have hinX0 := (by decide +kernel : ∀ w ∈ wsX00, w ∈ wsX0_goOn)
  have hf71 := hts (.fieldLink RX0 71 "PianoRounds$Competition" "tie" "LPianoRounds$Tie;") (by decide +kernel)
  have hf99 := hts (.fieldLink RX0 99 "PianoRounds$Competition" "round" "I") (by decide +kernel)
  have hf15 := hts (.fieldLink RX0 15 "PianoRounds$Competition" "rounds" "I") (by decide +kernel)
  have hf9 := hts (.fieldLink RX0 9 "PianoRounds$Competition" "state" "I") (by decide +kernel)
  have hl := lv_entry ([.ref (a o)]) (n := 1) (Nat.le_of_ble_eq_true rfl)
  rw [lg_entry_eq]
  generalize (lg_sl ([.ref (a o)]) ++ List.replicate (1 - (lg_sl ([.ref (a o)])).length) Slot.unset).toArray = ls at hl ⊢
  have hl : lv_has ls 1 [(0, .ref (a o))] := hl
  rw [DX0_goOn] at h
  refine lv_aload_n hx hb dX0_goOn_0 rfl (lv_at hl 0 rfl) ?_
  refine va_get (D := D) (ci := 0) (v := .ref (a (o + 35))) (C := RX0) (T := TX0) (N := 14) hx hb hts hinX0 hown hK hP 0 rfl rfl 11 (by decide) hf71 (fun _ h9 => h9) rfl dX0_goOn_1 ?_
  obtain ⟨x1, e2, h⟩ := bd_some h
  refine smVv (As := []) (rest := []) (ws' := (wX0 cy a o (uX0_tie S x1))) (q0 := 0) (qX9_end l D cy a (o + 35) (gX0_tie S)  (s.heap).size x1 e2) ⟨hx, hb, hml, hown, hts⟩ (cwV 0 hts gX0_goOn_X9_end rfl rfl rfl (by decide +kernel) ⟨Nat.le_of_ble_eq_true rfl, Nat.le_of_ble_eq_true rfl⟩) hG hP hD hS hA (pm1 (X := ((hX0 a o S) ++ ((wX10 cy a (o + 1) (gX0_works S)) ++ ((wX2 cy a (o + 5) (gX0_entrants S)) ++ ((rowsW (cy 2) (cy 0) a (o + 7) 4 6 (gX0_rules S)) ++ ((wX4 cy a (o + 12) (gX0_programs S)) ++ ((wX3 cy a (o + 14) (gX0_jury S)) ++ ((wX7 cy a (o + 23) (gX0_stage S)) ++ (wX6 cy a (o + 26) (gX0_sheet S)))))))))) (c := (wX9 cy a (o + 35) (gX0_tie S))) (Y := ((rowsW (cy 2) (cy 0) a (o + 46) 4 12 (gX0_closedScores S)) ++ (wX1 cy a (o + 51) (gX0_cut S)))) (show (wX0 cy a o S) = ((hX0 a o S) ++ ((wX10 cy a (o + 1) (gX0_works S)) ++ ((wX2 cy a (o + 5) (gX0_entrants S)) ++ ((rowsW (cy 2) (cy 0) a (o + 7) 4 6 (gX0_rules S)) ++ ((wX4 cy a (o + 12) (gX0_programs S)) ++ ((wX3 cy a (o + 14) (gX0_jury S)) ++ ((wX7 cy a (o + 23) (gX0_stage S)) ++ (wX6 cy a (o + 26) (gX0_sheet S))))))))) ++ ((wX9 cy a (o + 35) (gX0_tie S)) ++ ((rowsW (cy 2) (cy 0) a (o + 46) 4 12 (gX0_closedScores S)) ++ (wX1 cy a (o + 51) (gX0_cut S)))) from by simp only [wX0, List.append_assoc, List.nil_append, List.append_nil] <;> rfl)) (pm1 (X := ((hX0 a o S) ++ ((wX10 cy a (o + 1) (gX0_works S)) ++ ((wX2 cy a (o + 5) (gX0_entrants S)) ++ ((rowsW (cy 2) (cy 0) a (o + 7) 4 6 (gX0_rules S)) ++ ((wX4 cy a (o + 12) (gX0_programs S)) ++ ((wX3 cy a (o + 14) (gX0_jury S)) ++ ((wX7 cy a (o + 23) (gX0_stage S)) ++ (wX6 cy a (o + 26) (gX0_sheet S)))))))))) (c := (wX9 cy a (o + 35) x1)) (Y := ((rowsW (cy 2) (cy 0) a (o + 46) 4 12 (gX0_closedScores S)) ++ (wX1 cy a (o + 51) (gX0_cut S)))) (show (wX0 cy a o (uX0_tie S x1)) = ((hX0 a o S) ++ ((wX10 cy a (o + 1) (gX0_works S)) ++ ((wX2 cy a (o + 5) (gX0_entrants S)) ++ ((rowsW (cy 2) (cy 0) a (o + 7) 4 6 (gX0_rules S)) ++ ((wX4 cy a (o + 12) (gX0_programs S)) ++ ((wX3 cy a (o + 14) (gX0_jury S)) ++ ((wX7 cy a (o + 23) (gX0_stage S)) ++ (wX6 cy a (o + 26) (gX0_sheet S))))))))) ++ ((wX9 cy a (o + 35) x1) ++ ((rowsW (cy 2) (cy 0) a (o + 46) 4 12 (gX0_closedScores S)) ++ (wX1 cy a (o + 51) (gX0_cut S)))) from by simp only [wX0, List.append_assoc, List.nil_append, List.append_nil] <;> rfl)) rfl rfl rfl hl.1 rfl (Nat.le_of_ble_eq_true rfl) dX0_goOn_4 ⟨Nat.zero_le _, Nat.zero_le _⟩ (fun H locs hP hD hS => ?_)
  obtain ⟨S3, eS4, h⟩ := lt_elim h
  have hP : va_P D vwCl (wX0 cy a o S3) H := by rw [eS4]; exact hP
  have hD : va_D (va_A (wX0 cy a o S) s.heap.size) (wX0 cy a o S3) := by rw [eS4]; exact hD
  refine lv_aload_n hx hb dX0_goOn_7 rfl (lv_at hl 0 rfl) ?_
  refine va_get (D := D) (ci := 0) (v := .int (gX0_round S3)) (C := RX0) (T := TX0) (N := 14) hx hb hts hinX0 hown hK hP 0 rfl rfl 1 (by decide) hf99 (fun _ h9 => h9) rfl dX0_goOn_8 ?_
  refine lv_iconst (v := (1 : Int32)) hx hb dX0_goOn_11 (by decide) ?_
  refine lv_iadd hx hb dX0_goOn_12 ?_
  refine lv_aload_n hx hb dX0_goOn_13 rfl (lv_at hl 0 rfl) ?_
  refine va_get (D := D) (ci := 0) (v := .int (gX0_rounds S3)) (C := RX0) (T := TX0) (N := 14) hx hb hts hinX0 hown hK hP 0 rfl rfl 2 (by decide) hf15 (fun _ h9 => h9) rfl dX0_goOn_14 ?_
  obtain ⟨j6, hj6, h⟩ := jn_elim h
  have Jj6 : ∀ (S5 : SX0) (H : Heap) (locs : List Loc) (ls : Array Slot), j6 S5 = some rs → va_P D vwCl (wX0 cy a o S5) H → va_D (va_A (wX0 cy a o S) s.heap.size) (wX0 cy a o S5) → va_S (va_A (wX0 cy a o S) s.heap.size) s.heap H locs → lv_has ls 1 [] → W p l e (headSpec wsX0_goOn ({ frames := 5, cells := 0, slots := 0, locals := 121 } : Room)).room s m ([.ref (a o)] : List Value).toArray below meth c H locs 0 0 (MQ below (va_Qv (fun (u : SX0) => u = rs) (fun u t => mB D s.heap.size (wX0 cy a o S) (wX0 cy a o u) t) (va_A (wX0 cy a o S) s.heap.size)) ([.ref (a o)] : List Value).toArray s 0 0 (va_A (wX0 cy a o S) s.heap.size)) (F0 m 38 ls []) := by
    intro S5 H locs ls h hP hD hS hl
    rw [hj6] at h
    exact W.vret hx hb hr (fun t ht hW => ⟨⟨S5, rfl, some_in h, by rw [ht]; exact hP, hD⟩, hS.F ht⟩) hS.2.2 dX0_goOn_38
  refine lv_icmp_ge (tgt := 33) hx hb dX0_goOn_17 (by decide) (fun cc => ?_) (fun cc => ?_)
  · have h := ite_p cc h
    refine lv_aload_n hx hb dX0_goOn_33 rfl (lv_at hl 0 rfl) ?_
    refine lv_iconst (v := (3 : Int32)) hx hb dX0_goOn_34 (by decide) ?_
    refine va_put (D := D) (ci := 0) (v := .int (3 : Int32)) (ty := .int) (C := RX0) (T := TX0) (N := 14) hx hb hts hinX0 tyX0 tyX0_ok nmX0 hown hK hP hD hS 0 rfl rfl 0 (by decide) hf9 (fun _ h9 => h9) rfl (by decide +kernel) rfl rfl (Nat.le_of_ble_eq_true rfl) dX0_goOn_35 (fun H locs hP hD hS => ?_)
    have hP : va_P D vwCl (wX0 cy a o (uX0_state S3 (3 : Int32))) H := hP
    have hD : va_D (va_A (wX0 cy a o S) s.heap.size) (wX0 cy a o (uX0_state S3 (3 : Int32))) := hD
    obtain ⟨S7, eS8, h⟩ := lt_elim h
    have hP : va_P D vwCl (wX0 cy a o S7) H := by rw [eS8]; exact hP
    have hD : va_D (va_A (wX0 cy a o S) s.heap.size) (wX0 cy a o S7) := by rw [eS8]; exact hD
    exact Jj6 S7 H locs ls h hP hD hS (lv_sub hl [] rfl)
  · have h := ite_n cc h
    refine lv_aload_n hx hb dX0_goOn_20 rfl (lv_at hl 0 rfl) ?_
    refine lv_aload_n hx hb dX0_goOn_21 rfl (lv_at hl 0 rfl) ?_
    refine va_get (D := D) (ci := 0) (v := .int (gX0_round S3)) (C := RX0) (T := TX0) (N := 14) hx hb hts hinX0 hown hK hP 0 rfl rfl 1 (by decide) hf99 (fun _ h9 => h9) rfl dX0_goOn_22 ?_
    refine lv_iconst (v := (1 : Int32)) hx hb dX0_goOn_25 (by decide) ?_
    refine lv_iadd hx hb dX0_goOn_26 ?_
    obtain ⟨x9, e10, h⟩ := bd_some h
    refine smVv (As := [.int ((gX0_round S3) + (1 : Int32))]) (rest := []) (ws' := (wX0 cy a o x9)) (q0 := 0) (qX0_startRound l D cy a o S3 ((gX0_round S3) + (1 : Int32)) (H).size x9 e10) ⟨hx, hb, hml, hown, hts⟩ (cwV 1 hts gX0_goOn_X0_startRound rfl rfl rfl (by decide +kernel) ⟨Nat.le_of_ble_eq_true rfl, Nat.le_of_ble_eq_true rfl⟩) hG hP hD hS hA (pm1 (X := ([] : va_W)) (c := (wX0 cy a o S3)) (Y := ([] : va_W)) (show (wX0 cy a o S3) = ([] : va_W) ++ ((wX0 cy a o S3) ++ ([] : va_W)) from by simp only [List.append_assoc, List.nil_append, List.append_nil] <;> rfl)) (pm1 (X := ([] : va_W)) (c := (wX0 cy a o x9)) (Y := ([] : va_W)) (show (wX0 cy a o x9) = ([] : va_W) ++ ((wX0 cy a o x9) ++ ([] : va_W)) from by simp only [List.append_assoc, List.nil_append, List.append_nil] <;> rfl)) rfl rfl rfl hl.1 rfl (Nat.le_of_ble_eq_true rfl) dX0_goOn_27 ⟨Nat.zero_le _, Nat.zero_le _⟩ (fun H locs hP hD hS => ?_)
    refine lv_goto (tgt := 38) hx hb dX0_goOn_30 (by decide) ?_
    exact Jj6 x9 H locs ls h hP hD hS (lv_sub hl [] rfl)
set_option maxHeartbeats 4000000 in
set_option maxRecDepth 100000 in
theorem qX1_countOf (l : Launch) (D : va_G) (cy : Nat → ClassId) (a : Nat → Nat) (o : Nat) (S : SX1) (p1 : Int32) (rs : Int32) (h : DX1_countOf S p1 = some rs) : Met l yX1_countOf wsX1_countOf ({ frames := 1, cells := 0, slots := 0, locals := 20 } : Room) (va_Pc [.ref (a o), .int p1] (fun U => va_P D vwCl (wX1 cy a o S) U.heap ∧ gK D cy U)) (vp_Si (fun z => z = rs)) 0 0 (fun _ => False) := by
  refine Met.ofW (cc := cX1_countOf) (maxL := 2) (ret := (some .int)) (by decide) rfl ?_
  intro p e s m args below meth c s₁ B hml hv
  obtain ⟨rfl, hP, hG⟩ := hv
  have hx := B.exec
  have hb := B.bytes
  have hr := B.returns
  have hts := atoms_spec (ws := wsX1_countOf) B.pre
  have hown : s.vm.findClass RX1 = some m.cls := findClass_of_methodNamed B.named
  have hlocks := B.notSynchronized
  have hK := hG.1
  have hinX1 := (by decide +kernel : ∀ w ∈ wsX10, w ∈ wsX1_countOf)
  have hf36 := hts (.fieldLink RX1 36 "PianoRounds$Cut" "above" "I") (by decide +kernel)
  have hf39 := hts (.fieldLink RX1 39 "PianoRounds$Cut" "level" "I") (by decide +kernel)
  have hf42 := hts (.fieldLink RX1 42 "PianoRounds$Cut" "below" "I") (by decide +kernel)
  have hl := lv_entry ([.ref (a o), .int p1]) (n := 2) (Nat.le_of_ble_eq_true rfl)
  rw [lg_entry_eq]
  generalize (lg_sl ([.ref (a o), .int p1]) ++ List.replicate (2 - (lg_sl ([.ref (a o), .int p1])).length) Slot.unset).toArray = ls at hl ⊢
  have hl : lv_has ls 2 [(0, .ref (a o)), (1, .int p1)] := hl
  rw [DX1_countOf] at h
  refine lv_iload_n hx hb dX1_countOf_0 rfl (lv_at hl 1 rfl) ?_
  by_cases c0 : p1 = (0 : Int32)
  · have h := ite_p c0 h
    refine lv_lookup (tgt := 28) (off := 27) hx hb dX1_countOf_1 (by decide) (by rw [c0]; decide) (by decide) ?_
    refine lv_aload_n hx hb dX1_countOf_28 rfl (lv_at hl 0 rfl) ?_
    obtain ⟨x1, e2, h⟩ := bd_some h
    refine pcV (As := []) (rest := []) (q0 := 0) (qX1_leavesTie l D cy a o S  x1 e2) ⟨hx, hb, hml, hown, hts⟩ (cwV 0 hts gX1_countOf_X1_leavesTie rfl rfl rfl (by decide +kernel) ⟨Nat.le_of_ble_eq_true rfl, Nat.le_of_ble_eq_true rfl⟩) hG hP rfl rfl rfl hl.1 rfl (Nat.le_of_ble_eq_true rfl) dX1_countOf_29 ⟨Nat.zero_le _, Nat.zero_le _⟩ ?_
    obtain ⟨j4, hj4, h⟩ := jn_elim h
    have Jj4 : ∀ (x3 : Int32) (ls : Array Slot), j4 x3 = some rs → lv_has ls 2 [] → W p l e (headSpec wsX1_countOf ({ frames := 1, cells := 0, slots := 0, locals := 20 } : Room)).room s m ([.ref (a o), .int p1] : List Value).toArray below meth c s.heap [] 0 0 (MQ below (vp_Si (fun z => z = rs)) ([.ref (a o), .int p1] : List Value).toArray s 0 0 (fun _ => False)) (F0 m 51 ls [.int x3]) := by
      intro x3 ls h hl
      rw [hj4] at h
      exact W.iret (v := x3) hx hb hr (fun t ht hW => ⟨x3, rfl, some_in h, ht⟩) (fun q hq => nomatch hq) dX1_countOf_51
    refine lv_if_eq (tgt := 42) hx hb dX1_countOf_32 (by decide) (fun cc => ?_) (fun cc => ?_)
    · have h := ite_p cc h
      refine lv_aload_n hx hb dX1_countOf_42 rfl (lv_at hl 0 rfl) ?_
      refine va_get (D := D) (ci := 1) (v := .int (gX1_above S)) (C := RX1) (T := TX1) (N := 6) hx hb hts hinX1 hown hK hP 0 rfl rfl 2 (by decide) hf36 (fun _ h9 => h9) rfl dX1_countOf_43 ?_
      refine lv_aload_n hx hb dX1_countOf_46 rfl (lv_at hl 0 rfl) ?_
      refine va_get (D := D) (ci := 1) (v := .int (gX1_level S)) (C := RX1) (T := TX1) (N := 6) hx hb hts hinX1 hown hK hP 0 rfl rfl 3 (by decide) hf39 (fun _ h9 => h9) rfl dX1_countOf_47 ?_
      refine lv_iadd hx hb dX1_countOf_50 ?_
      exact Jj4 ((gX1_above S) + (gX1_level S)) ls h (lv_sub hl [] rfl)
    · have h := ite_n cc h
      refine lv_aload_n hx hb dX1_countOf_35 rfl (lv_at hl 0 rfl) ?_
      refine va_get (D := D) (ci := 1) (v := .int (gX1_above S)) (C := RX1) (T := TX1) (N := 6) hx hb hts hinX1 hown hK hP 0 rfl rfl 2 (by decide) hf36 (fun _ h9 => h9) rfl dX1_countOf_36 ?_
      refine lv_goto (tgt := 51) hx hb dX1_countOf_39 (by decide) ?_
      exact Jj4 (gX1_above S) ls h (lv_sub hl [] rfl)
  have h := ite_n c0 h
  by_cases c1 : p1 = (1 : Int32)
  · have h := ite_p c1 h
    refine lv_lookup (tgt := 52) (off := 51) hx hb dX1_countOf_1 (by decide) (by rw [c1]; decide) (by decide) ?_
    refine lv_aload_n hx hb dX1_countOf_52 rfl (lv_at hl 0 rfl) ?_
    obtain ⟨x5, e6, h⟩ := bd_some h
    refine pcV (As := []) (rest := []) (q0 := 0) (qX1_leavesTie l D cy a o S  x5 e6) ⟨hx, hb, hml, hown, hts⟩ (cwV 0 hts gX1_countOf_X1_leavesTie rfl rfl rfl (by decide +kernel) ⟨Nat.le_of_ble_eq_true rfl, Nat.le_of_ble_eq_true rfl⟩) hG hP rfl rfl rfl hl.1 rfl (Nat.le_of_ble_eq_true rfl) dX1_countOf_53 ⟨Nat.zero_le _, Nat.zero_le _⟩ ?_
    obtain ⟨j8, hj8, h⟩ := jn_elim h
    have Jj8 : ∀ (x7 : Int32) (ls : Array Slot), j8 x7 = some rs → lv_has ls 2 [] → W p l e (headSpec wsX1_countOf ({ frames := 1, cells := 0, slots := 0, locals := 20 } : Room)).room s m ([.ref (a o), .int p1] : List Value).toArray below meth c s.heap [] 0 0 (MQ below (vp_Si (fun z => z = rs)) ([.ref (a o), .int p1] : List Value).toArray s 0 0 (fun _ => False)) (F0 m 67 ls [.int x7]) := by
      intro x7 ls h hl
      rw [hj8] at h
      exact W.iret (v := x7) hx hb hr (fun t ht hW => ⟨x7, rfl, some_in h, ht⟩) (fun q hq => nomatch hq) dX1_countOf_67
    refine lv_if_eq (tgt := 66) hx hb dX1_countOf_56 (by decide) (fun cc => ?_) (fun cc => ?_)
    · have h := ite_p cc h
      refine lv_iconst (v := (0 : Int32)) hx hb dX1_countOf_66 (by decide) ?_
      exact Jj8 (0 : Int32) ls h (lv_sub hl [] rfl)
    · have h := ite_n cc h
      refine lv_aload_n hx hb dX1_countOf_59 rfl (lv_at hl 0 rfl) ?_
      refine va_get (D := D) (ci := 1) (v := .int (gX1_level S)) (C := RX1) (T := TX1) (N := 6) hx hb hts hinX1 hown hK hP 0 rfl rfl 3 (by decide) hf39 (fun _ h9 => h9) rfl dX1_countOf_60 ?_
      refine lv_goto (tgt := 67) hx hb dX1_countOf_63 (by decide) ?_
      exact Jj8 (gX1_level S) ls h (lv_sub hl [] rfl)
  have h := ite_n c1 h
  refine lv_lookup (tgt := 68) (off := 67) hx hb dX1_countOf_1 (by decide) ((lv_osw c0 (by decide)).trans ((lv_osw c1 (by decide)).trans rfl)) (by decide) ?_
  refine lv_aload_n hx hb dX1_countOf_68 rfl (lv_at hl 0 rfl) ?_
  refine va_get (D := D) (ci := 1) (v := .int (gX1_below S)) (C := RX1) (T := TX1) (N := 6) hx hb hts hinX1 hown hK hP 0 rfl rfl 4 (by decide) hf42 (fun _ h9 => h9) rfl dX1_countOf_69 ?_
  exact W.iret (v := (gX1_below S)) hx hb hr (fun t ht hW => ⟨(gX1_below S), rfl, some_in h, ht⟩) (fun q hq => nomatch hq) dX1_countOf_72
set_option maxHeartbeats 4000000 in
set_option maxRecDepth 100000 in
theorem qX2_append (l : Launch) (D : va_G) (cy : Nat → ClassId) (a : Nat → Nat) (o : Nat) (S : SX2)  (sz : Nat) (rs : Int32 × SX2) (h : DX2_append S = some rs) : Met l yX2_append wsX2_append ({ frames := 0, cells := 0, slots := 0, locals := 0 } : Room) (mP D cy sz [.ref (a o)] (wX2 cy a o S)) (va_Qi (fun r (u : SX2) => (r, u) = rs) (fun u t => mB D sz (wX2 cy a o S) (wX2 cy a o u) t) (va_A (wX2 cy a o S) sz)) 0 0 (va_A (wX2 cy a o S) sz) := by
  refine Met.ofW (cc := cX2_append) (maxL := 2) (ret := (some .int)) (by decide) rfl ?_
  intro p e s m args below meth c s₁ B hml hv
  obtain ⟨rfl, hsz, hP, hG, hD0⟩ := hv
  have hx := B.exec
  have hb := B.bytes
  have hr := B.returns
  have hts := atoms_spec (ws := wsX2_append) B.pre
  have hown : s.vm.findClass RX2 = some m.cls := findClass_of_methodNamed B.named
  have hlocks := B.notSynchronized
  have hK := hG.1
  subst hsz
  have hD := hD0.self (sz := s.heap.size)
  have hA : ∀ q : Nat, s.heap.size ≤ q → (va_A (wX2 cy a o S) s.heap.size) q := fun q h => Or.inr h
  have hS : va_S (va_A (wX2 cy a o S) s.heap.size) s.heap s.heap [] := va_S.rf
  have hinX2 := (by decide +kernel : ∀ w ∈ wsX20, w ∈ wsX2_append)
  have hf15 := hts (.fieldLink RX2 15 "PianoRounds$Entrants" "count" "I") (by decide +kernel)
  have hf9 := hts (.fieldLink RX2 9 "PianoRounds$Entrants" "in" "[I") (by decide +kernel)
  have hl := lv_entry ([.ref (a o)]) (n := 2) (Nat.le_of_ble_eq_true rfl)
  rw [lg_entry_eq]
  generalize (lg_sl ([.ref (a o)]) ++ List.replicate (2 - (lg_sl ([.ref (a o)])).length) Slot.unset).toArray = ls at hl ⊢
  have hl : lv_has ls 2 [(0, .ref (a o))] := hl
  rw [DX2_append] at h
  refine lv_aload_n hx hb dX2_append_0 rfl (lv_at hl 0 rfl) ?_
  refine va_get (D := D) (ci := 2) (v := .int (gX2_count S)) (C := RX2) (T := TX2) (N := 2) hx hb hts hinX2 hown hK hP 0 rfl rfl 0 (by decide) hf15 (fun _ h9 => h9) rfl dX2_append_1 ?_
  refine lv_bipush (v := (12 : Int32)) hx hb dX2_append_4 (by decide) ?_
  refine lv_icmp_lt (tgt := 11) hx hb dX2_append_6 (by decide) (fun cc => ?_) (fun cc => ?_)
  · have h := ite_p cc h
    refine lv_aload_n hx hb dX2_append_11 rfl (lv_at hl 0 rfl) ?_
    refine va_get (D := D) (ci := 2) (v := .int (gX2_count S)) (C := RX2) (T := TX2) (N := 2) hx hb hts hinX2 hown hK hP 0 rfl rfl 0 (by decide) hf15 (fun _ h9 => h9) rfl dX2_append_12 ?_
    refine lv_istore_n (lv' := [(1, .int (gX2_count S)), (0, .ref (a o))]) hx hb dX2_append_15 rfl hl (by decide) rfl (fun ls hl => ?_)
    refine lv_aload_n hx hb dX2_append_16 rfl (lv_at hl 1 rfl) ?_
    refine va_get (D := D) (ci := 2) (v := .ref (a (o + 1))) (C := RX2) (T := TX2) (N := 2) hx hb hts hinX2 hown hK hP 0 rfl rfl 1 (by decide) hf9 (fun _ h9 => h9) rfl dX2_append_17 ?_
    refine lv_iload_n hx hb dX2_append_20 rfl (lv_at hl 0 rfl) ?_
    refine lv_iconst (v := (1 : Int32)) hx hb dX2_append_21 (by decide) ?_
    obtain ⟨g1, h⟩ := gd_some h
    refine r_ast (f := (gX2_in S)) (f' := (upd (gX2_in S) (((gX2_count S)).toNatClampNeg) (1 : Int32))) (n := 12) (ws' := (wX2 cy a o (uX2_in S (upd (gX2_in S) (((gX2_count S)).toNatClampNeg) (1 : Int32))))) hx hb hK hP hD hS 1 0 rfl rfl (gIn_in g1) rfl rfl dX2_append_22 (fun H locs hP hD hS => ?_)
    obtain ⟨S2, eS3, h⟩ := lt_elim h
    have hP : va_P D vwCl (wX2 cy a o S2) H := by rw [eS3]; exact hP
    have hD : va_D (va_A (wX2 cy a o S) s.heap.size) (wX2 cy a o S2) := by rw [eS3]; exact hD
    refine lv_aload_n hx hb dX2_append_23 rfl (lv_at hl 1 rfl) ?_
    refine lv_iload_n hx hb dX2_append_24 rfl (lv_at hl 0 rfl) ?_
    refine lv_iconst (v := (1 : Int32)) hx hb dX2_append_25 (by decide) ?_
    refine lv_iadd hx hb dX2_append_26 ?_
    refine va_put (D := D) (ci := 2) (v := .int ((gX2_count S) + (1 : Int32))) (ty := .int) (C := RX2) (T := TX2) (N := 2) hx hb hts hinX2 tyX2 tyX2_ok nmX2 hown hK hP hD hS 0 rfl rfl 0 (by decide) hf15 (fun _ h9 => h9) rfl (by decide +kernel) rfl rfl (Nat.le_of_ble_eq_true rfl) dX2_append_27 (fun H locs hP hD hS => ?_)
    have hP : va_P D vwCl (wX2 cy a o (uX2_count S2 ((gX2_count S) + (1 : Int32)))) H := hP
    have hD : va_D (va_A (wX2 cy a o S) s.heap.size) (wX2 cy a o (uX2_count S2 ((gX2_count S) + (1 : Int32)))) := hD
    obtain ⟨S4, eS5, h⟩ := lt_elim h
    have hP : va_P D vwCl (wX2 cy a o S4) H := by rw [eS5]; exact hP
    have hD : va_D (va_A (wX2 cy a o S) s.heap.size) (wX2 cy a o S4) := by rw [eS5]; exact hD
    refine lv_iload_n hx hb dX2_append_30 rfl (lv_at hl 0 rfl) ?_
    exact W.iret (v := (gX2_count S)) hx hb hr (fun t ht hW => ⟨⟨(gX2_count S), S4, rfl, some_in h, by rw [ht]; exact hP, hD⟩, hS.F ht⟩) hS.2.2 dX2_append_31
  · have h := ite_n cc h
    refine lv_iconst (v := (-1 : Int32)) hx hb dX2_append_9 (by decide) ?_
    exact W.iret (v := (-1 : Int32)) hx hb hr (fun t ht hW => ⟨⟨(-1 : Int32), S, rfl, some_in h, by rw [ht]; exact hP, hD⟩, hS.F ht⟩) hS.2.2 dX2_append_10
set_option maxHeartbeats 4000000 in
set_option maxRecDepth 100000 in
theorem qX3_has (l : Launch) (D : va_G) (cy : Nat → ClassId) (a : Nat → Nat) (o : Nat) (S : SX3) (p1 : Int32) (rs : Int32) (h : DX3_has S p1 = some rs) : Met l yX3_has wsX3_has ({ frames := 0, cells := 0, slots := 0, locals := 0 } : Room) (va_Pc [.ref (a o), .int p1] (fun U => va_P D vwCl (wX3 cy a o S) U.heap ∧ gK D cy U)) (vp_Si (fun z => z = rs)) 0 0 (fun _ => False) := by
  refine Met.ofW (cc := cX3_has) (maxL := 2) (ret := (some .boolean)) (by decide) rfl ?_
  intro p e s m args below meth c s₁ B hml hv
  obtain ⟨rfl, hP, hG⟩ := hv
  have hx := B.exec
  have hb := B.bytes
  have hr := B.returns
  have hts := atoms_spec (ws := wsX3_has) B.pre
  have hown : s.vm.findClass RX3 = some m.cls := findClass_of_methodNamed B.named
  have hlocks := B.notSynchronized
  have hK := hG.1
  have hinX3 := (by decide +kernel : ∀ w ∈ wsX30, w ∈ wsX3_has)
  have hf9 := hts (.fieldLink RX3 9 "PianoRounds$Jury" "size" "I") (by decide +kernel)
  have hl := lv_entry ([.ref (a o), .int p1]) (n := 2) (Nat.le_of_ble_eq_true rfl)
  rw [lg_entry_eq]
  generalize (lg_sl ([.ref (a o), .int p1]) ++ List.replicate (2 - (lg_sl ([.ref (a o), .int p1])).length) Slot.unset).toArray = ls at hl ⊢
  have hl : lv_has ls 2 [(0, .ref (a o)), (1, .int p1)] := hl
  rw [DX3_has] at h
  refine lv_iload_n hx hb dX3_has_0 rfl (lv_at hl 1 rfl) ?_
  obtain ⟨j2, hj2, h⟩ := jn_elim h
  have Jj2 : ∀ (x1 : Int32) (ls : Array Slot), j2 x1 = some rs → lv_has ls 2 [] → W p l e (headSpec wsX3_has ({ frames := 0, cells := 0, slots := 0, locals := 0 } : Room)).room s m ([.ref (a o), .int p1] : List Value).toArray below meth c s.heap [] 0 0 (MQ below (vp_Si (fun z => z = rs)) ([.ref (a o), .int p1] : List Value).toArray s 0 0 (fun _ => False)) (F0 m 23 ls [.int x1]) := by
    intro x1 ls h hl
    rw [hj2] at h
    obtain ⟨g3, h⟩ := gd_some h
    exact W.zret (v := x1) hx hb hr (zN g3) (fun t ht hW => ⟨x1, rfl, some_in h, ht⟩) (fun q hq => nomatch hq) dX3_has_23
  obtain ⟨j4, hj4, h⟩ := jn_elim h
  have Jj4 : ∀ (ls : Array Slot), j4 () = some rs → lv_has ls 2 [] → W p l e (headSpec wsX3_has ({ frames := 0, cells := 0, slots := 0, locals := 0 } : Room)).room s m ([.ref (a o), .int p1] : List Value).toArray below meth c s.heap [] 0 0 (MQ below (vp_Si (fun z => z = rs)) ([.ref (a o), .int p1] : List Value).toArray s 0 0 (fun _ => False)) (F0 m 22 ls []) := by
    intro ls h hl
    rw [hj4] at h
    refine lv_iconst (v := (0 : Int32)) hx hb dX3_has_22 (by decide) ?_
    exact Jj2 (0 : Int32) ls h (lv_sub hl [] rfl)
  refine lv_if_lt (tgt := 22) hx hb dX3_has_1 (by decide) (fun cc => ?_) (fun cc => ?_)
  · have h := ite_p cc h
    exact Jj4  ls h (lv_sub hl [] rfl)
  · have h := ite_n cc h
    refine lv_iload_n hx hb dX3_has_4 rfl (lv_at hl 1 rfl) ?_
    refine lv_aload_n hx hb dX3_has_5 rfl (lv_at hl 0 rfl) ?_
    refine va_get (D := D) (ci := 3) (v := .int (gX3_size S)) (C := RX3) (T := TX3) (N := 2) hx hb hts hinX3 hown hK hP 0 rfl rfl 0 (by decide) hf9 (fun _ h9 => h9) rfl dX3_has_6 ?_
    refine lv_icmp_ge (tgt := 22) hx hb dX3_has_9 (by decide) (fun cc => ?_) (fun cc => ?_)
    · have h := ite_p cc h
      exact Jj4  ls h (lv_sub hl [] rfl)
    · have h := ite_n cc h
      refine lv_iload_n hx hb dX3_has_12 rfl (lv_at hl 1 rfl) ?_
      refine lv_bipush (v := (7 : Int32)) hx hb dX3_has_13 (by decide) ?_
      refine lv_icmp_ge (tgt := 22) hx hb dX3_has_15 (by decide) (fun cc => ?_) (fun cc => ?_)
      · have h := ite_p cc h
        exact Jj4  ls h (lv_sub hl [] rfl)
      · have h := ite_n cc h
        refine lv_iconst (v := (1 : Int32)) hx hb dX3_has_18 (by decide) ?_
        refine lv_goto (tgt := 23) hx hb dX3_has_19 (by decide) ?_
        exact Jj2 (1 : Int32) ls h (lv_sub hl [] rfl)
set_option maxHeartbeats 4000000 in
set_option maxRecDepth 100000 in
theorem qX3_setBarred (l : Launch) (D : va_G) (cy : Nat → ClassId) (a : Nat → Nat) (o : Nat) (S : SX3) (p1 : Int32) (p2 : Int32) (p3 : Int32) (sz : Nat) (rs : SX3) (h : DX3_setBarred S p1 p2 p3 = some rs) : Met l yX3_setBarred wsX3_setBarred ({ frames := 0, cells := 0, slots := 0, locals := 0 } : Room) (mP D cy sz [.ref (a o), .int p1, .int p2, .int p3] (wX3 cy a o S)) (va_Qv (fun (u : SX3) => u = rs) (fun u t => mB D sz (wX3 cy a o S) (wX3 cy a o u) t) (va_A (wX3 cy a o S) sz)) 0 0 (va_A (wX3 cy a o S) sz) := by
  refine Met.ofW (cc := cX3_setBarred) (maxL := 4) (ret := none) (by decide) rfl ?_
  intro p e s m args below meth c s₁ B hml hv
  obtain ⟨rfl, hsz, hP, hG, hD0⟩ := hv
  have hx := B.exec
  have hb := B.bytes
  have hr := B.returns
  have hts := atoms_spec (ws := wsX3_setBarred) B.pre
  have hown : s.vm.findClass RX3 = some m.cls := findClass_of_methodNamed B.named
  have hlocks := B.notSynchronized
  have hK := hG.1
  subst hsz
  have hD := hD0.self (sz := s.heap.size)
  have hA : ∀ q : Nat, s.heap.size ≤ q → (va_A (wX3 cy a o S) s.heap.size) q := fun q h => Or.inr h
  have hS : va_S (va_A (wX3 cy a o S) s.heap.size) s.heap s.heap [] := va_S.rf
  have hinX3 := (by decide +kernel : ∀ w ∈ wsX30, w ∈ wsX3_setBarred)
  have hf17 := hts (.fieldLink RX3 17 "PianoRounds$Jury" "barred" "[[I") (by decide +kernel)
  have hl := lv_entry ([.ref (a o), .int p1, .int p2, .int p3]) (n := 4) (Nat.le_of_ble_eq_true rfl)
  rw [lg_entry_eq]
  generalize (lg_sl ([.ref (a o), .int p1, .int p2, .int p3]) ++ List.replicate (4 - (lg_sl ([.ref (a o), .int p1, .int p2, .int p3])).length) Slot.unset).toArray = ls at hl ⊢
  have hl : lv_has ls 4 [(0, .ref (a o)), (1, .int p1), (2, .int p2), (3, .int p3)] := hl
  rw [DX3_setBarred] at h
  refine lv_iload_n hx hb dX3_setBarred_0 rfl (lv_at hl 1 rfl) ?_
  obtain ⟨j2, hj2, h⟩ := jn_elim h
  have Jj2 : ∀ (S1 : SX3) (H : Heap) (locs : List Loc) (ls : Array Slot), j2 S1 = some rs → va_P D vwCl (wX3 cy a o S1) H → va_D (va_A (wX3 cy a o S) s.heap.size) (wX3 cy a o S1) → va_S (va_A (wX3 cy a o S) s.heap.size) s.heap H locs → lv_has ls 4 [] → W p l e (headSpec wsX3_setBarred ({ frames := 0, cells := 0, slots := 0, locals := 0 } : Room)).room s m ([.ref (a o), .int p1, .int p2, .int p3] : List Value).toArray below meth c H locs 0 0 (MQ below (va_Qv (fun (u : SX3) => u = rs) (fun u t => mB D s.heap.size (wX3 cy a o S) (wX3 cy a o u) t) (va_A (wX3 cy a o S) s.heap.size)) ([.ref (a o), .int p1, .int p2, .int p3] : List Value).toArray s 0 0 (va_A (wX3 cy a o S) s.heap.size)) (F0 m 37 ls []) := by
    intro S1 H locs ls h hP hD hS hl
    rw [hj2] at h
    exact W.vret hx hb hr (fun t ht hW => ⟨⟨S1, rfl, some_in h, by rw [ht]; exact hP, hD⟩, hS.F ht⟩) hS.2.2 dX3_setBarred_37
  refine lv_if_lt (tgt := 37) hx hb dX3_setBarred_1 (by decide) (fun cc => ?_) (fun cc => ?_)
  · have h := ite_p cc h
    exact Jj2 S s.heap [] ls h hP hD hS (lv_sub hl [] rfl)
  · have h := ite_n cc h
    refine lv_iload_n hx hb dX3_setBarred_4 rfl (lv_at hl 1 rfl) ?_
    refine lv_bipush (v := (7 : Int32)) hx hb dX3_setBarred_5 (by decide) ?_
    refine lv_icmp_ge (tgt := 37) hx hb dX3_setBarred_7 (by decide) (fun cc => ?_) (fun cc => ?_)
    · have h := ite_p cc h
      exact Jj2 S s.heap [] ls h hP hD hS (lv_sub hl [] rfl)
    · have h := ite_n cc h
      refine lv_iload_n hx hb dX3_setBarred_10 rfl (lv_at hl 2 rfl) ?_
      refine lv_if_lt (tgt := 37) hx hb dX3_setBarred_11 (by decide) (fun cc => ?_) (fun cc => ?_)
      · have h := ite_p cc h
        exact Jj2 S s.heap [] ls h hP hD hS (lv_sub hl [] rfl)
      · have h := ite_n cc h
        refine lv_iload_n hx hb dX3_setBarred_14 rfl (lv_at hl 2 rfl) ?_
        refine lv_bipush (v := (12 : Int32)) hx hb dX3_setBarred_15 (by decide) ?_
        refine lv_icmp_ge (tgt := 37) hx hb dX3_setBarred_17 (by decide) (fun cc => ?_) (fun cc => ?_)
        · have h := ite_p cc h
          exact Jj2 S s.heap [] ls h hP hD hS (lv_sub hl [] rfl)
        · have h := ite_n cc h
          refine lv_aload_n hx hb dX3_setBarred_20 rfl (lv_at hl 0 rfl) ?_
          refine va_get (D := D) (ci := 3) (v := .ref (a (o + 1))) (C := RX3) (T := TX3) (N := 2) hx hb hts hinX3 hown hK hP 0 rfl rfl 1 (by decide) hf17 (fun _ h9 => h9) rfl dX3_setBarred_21 ?_
          refine lv_iload_n hx hb dX3_setBarred_24 rfl (lv_at hl 1 rfl) ?_
          obtain ⟨g3, h⟩ := gd_some h
          refine r_aldR (n := 7) (o := o + 1) (ad := a) (j := (p1).toNatClampNeg) hx hb hK hP 1 2 rfl rfl (gIn_in g3) rfl dX3_setBarred_25 ?_
          refine lv_iload_n hx hb dX3_setBarred_26 rfl (lv_at hl 2 rfl) ?_
          refine lv_iload_n hx hb dX3_setBarred_27 rfl (lv_at hl 3 rfl) ?_
          obtain ⟨j5, hj5, h⟩ := jn_elim h
          have Jj5 : ∀ (x4 : Int32) (ls : Array Slot), j5 x4 = some rs → lv_has ls 4 [] → W p l e (headSpec wsX3_setBarred ({ frames := 0, cells := 0, slots := 0, locals := 0 } : Room)).room s m ([.ref (a o), .int p1, .int p2, .int p3] : List Value).toArray below meth c s.heap [] 0 0 (MQ below (va_Qv (fun (u : SX3) => u = rs) (fun u t => mB D s.heap.size (wX3 cy a o S) (wX3 cy a o u) t) (va_A (wX3 cy a o S) s.heap.size)) ([.ref (a o), .int p1, .int p2, .int p3] : List Value).toArray s 0 0 (va_A (wX3 cy a o S) s.heap.size)) (F0 m 36 ls [.int x4, .int p2, .ref (a (o + 1 + 1 + ((p1).toNatClampNeg)))]) := by
            intro x4 ls h hl
            rw [hj5] at h
            obtain ⟨g6, h⟩ := gd_some h
            refine r_ast (f := ((gX3_barred S) ((p1).toNatClampNeg))) (f' := (upd ((gX3_barred S) ((p1).toNatClampNeg)) ((p2).toNatClampNeg) x4)) (n := 12) (ws' := (wX3 cy a o (uX3_barred S (upd2 (gX3_barred S) ((p1).toNatClampNeg) (upd ((gX3_barred S) ((p1).toNatClampNeg)) ((p2).toNatClampNeg) x4))))) hx hb hK hP hD hS (1 + 1 + ((p1).toNatClampNeg)) 0 (all7 (P := fun j => (wX3 cy a o S)[1 + 1 + j]? = some (a (o + 1 + 1 + j), .inl (cy 0, 12, .inl ((gX3_barred S) j)))) rfl rfl rfl rfl rfl rfl rfl _ (gIn_lt g3)) rfl (gIn_in g6) rfl (all7 (P := fun j => (wX3 cy a o S).set (1 + 1 + j) (a (o + 1 + 1 + j), .inl (cy 0, 12, .inl (upd ((gX3_barred S) j) ((p2).toNatClampNeg) x4))) = (wX3 cy a o (uX3_barred S (upd2 (gX3_barred S) j (upd ((gX3_barred S) j) ((p2).toNatClampNeg) x4))))) rfl rfl rfl rfl rfl rfl rfl _ (gIn_lt g3)) dX3_setBarred_36 (fun H locs hP hD hS => ?_)
            obtain ⟨S7, eS8, h⟩ := lt_elim h
            have hP : va_P D vwCl (wX3 cy a o S7) H := by rw [eS8]; exact hP
            have hD : va_D (va_A (wX3 cy a o S) s.heap.size) (wX3 cy a o S7) := by rw [eS8]; exact hD
            exact Jj2 S7 H locs ls h hP hD hS (lv_sub hl [] rfl)
          refine lv_if_eq (tgt := 35) hx hb dX3_setBarred_28 (by decide) (fun cc => ?_) (fun cc => ?_)
          · have h := ite_p cc h
            refine lv_iconst (v := (0 : Int32)) hx hb dX3_setBarred_35 (by decide) ?_
            exact Jj5 (0 : Int32) ls h (lv_sub hl [] rfl)
          · have h := ite_n cc h
            refine lv_iconst (v := (1 : Int32)) hx hb dX3_setBarred_31 (by decide) ?_
            refine lv_goto (tgt := 36) hx hb dX3_setBarred_32 (by decide) ?_
            exact Jj5 (1 : Int32) ls h (lv_sub hl [] rfl)
set_option maxHeartbeats 4000000 in
set_option maxRecDepth 100000 in
theorem qX4_put (l : Launch) (D : va_G) (cy : Nat → ClassId) (a : Nat → Nat) (o : Nat) (S : SX4) (p1 : Int32) (p2 : Int32) (p3 : Int32) (p4 : Int32) (sz : Nat) (rs : SX4) (h : DX4_put S p1 p2 p3 p4 = some rs) : Met l yX4_put wsX4_put ({ frames := 0, cells := 0, slots := 0, locals := 0 } : Room) (mP D cy sz [.ref (a o), .int p1, .int p2, .int p3, .int p4] (wX4 cy a o S)) (va_Qv (fun (u : SX4) => u = rs) (fun u t => mB D sz (wX4 cy a o S) (wX4 cy a o u) t) (va_A (wX4 cy a o S) sz)) 0 0 (va_A (wX4 cy a o S) sz) := by
  refine Met.ofW (cc := cX4_put) (maxL := 6) (ret := none) (by decide) rfl ?_
  intro p e s m args below meth c s₁ B hml hv
  obtain ⟨rfl, hsz, hP, hG, hD0⟩ := hv
  have hx := B.exec
  have hb := B.bytes
  have hr := B.returns
  have hts := atoms_spec (ws := wsX4_put) B.pre
  have hown : s.vm.findClass RX4 = some m.cls := findClass_of_methodNamed B.named
  have hlocks := B.notSynchronized
  have hK := hG.1
  subst hsz
  have hD := hD0.self (sz := s.heap.size)
  have hA : ∀ q : Nat, s.heap.size ≤ q → (va_A (wX4 cy a o S) s.heap.size) q := fun q h => Or.inr h
  have hS : va_S (va_A (wX4 cy a o S) s.heap.size) s.heap s.heap [] := va_S.rf
  have hinX4 := (by decide +kernel : ∀ w ∈ wsX40, w ∈ wsX4_put)
  have hf9 := hts (.fieldLink RX4 9 "PianoRounds$Programs" "places" "[I") (by decide +kernel)
  have hl := lv_entry ([.ref (a o), .int p1, .int p2, .int p3, .int p4]) (n := 6) (Nat.le_of_ble_eq_true rfl)
  rw [lg_entry_eq]
  generalize (lg_sl ([.ref (a o), .int p1, .int p2, .int p3, .int p4]) ++ List.replicate (6 - (lg_sl ([.ref (a o), .int p1, .int p2, .int p3, .int p4])).length) Slot.unset).toArray = ls at hl ⊢
  have hl : lv_has ls 6 [(0, .ref (a o)), (1, .int p1), (2, .int p2), (3, .int p3), (4, .int p4)] := hl
  rw [DX4_put] at h
  refine lv_iload_n hx hb dX4_put_0 rfl (lv_at hl 1 rfl) ?_
  obtain ⟨j2, hj2, h⟩ := jn_elim h
  have Jj2 : ∀ (x1 : Int32) (ls : Array Slot), j2 x1 = some rs → lv_has ls 6 [(0, .ref (a o)), (1, .int p1), (2, .int p2), (3, .int p3), (4, .int p4)] → W p l e (headSpec wsX4_put ({ frames := 0, cells := 0, slots := 0, locals := 0 } : Room)).room s m ([.ref (a o), .int p1, .int p2, .int p3, .int p4] : List Value).toArray below meth c s.heap [] 0 0 (MQ below (va_Qv (fun (u : SX4) => u = rs) (fun u t => mB D s.heap.size (wX4 cy a o S) (wX4 cy a o u) t) (va_A (wX4 cy a o S) s.heap.size)) ([.ref (a o), .int p1, .int p2, .int p3, .int p4] : List Value).toArray s 0 0 (va_A (wX4 cy a o S) s.heap.size)) (F0 m 33 ls [.int x1]) := by
    intro x1 ls h hl
    rw [hj2] at h
    refine lv_istore (lv' := [(5, .int x1), (0, .ref (a o)), (1, .int p1), (2, .int p2), (3, .int p3), (4, .int p4)]) hx hb dX4_put_33 hl (by decide) rfl (fun ls hl => ?_)
    refine lv_iload hx hb dX4_put_35 (lv_at hl 0 rfl) ?_
    obtain ⟨j4, hj4, h⟩ := jn_elim h
    have Jj4 : ∀ (S3 : SX4) (H : Heap) (locs : List Loc) (ls : Array Slot), j4 S3 = some rs → va_P D vwCl (wX4 cy a o S3) H → va_D (va_A (wX4 cy a o S) s.heap.size) (wX4 cy a o S3) → va_S (va_A (wX4 cy a o S) s.heap.size) s.heap H locs → lv_has ls 6 [] → W p l e (headSpec wsX4_put ({ frames := 0, cells := 0, slots := 0, locals := 0 } : Room)).room s m ([.ref (a o), .int p1, .int p2, .int p3, .int p4] : List Value).toArray below meth c H locs 0 0 (MQ below (va_Qv (fun (u : SX4) => u = rs) (fun u t => mB D s.heap.size (wX4 cy a o S) (wX4 cy a o u) t) (va_A (wX4 cy a o S) s.heap.size)) ([.ref (a o), .int p1, .int p2, .int p3, .int p4] : List Value).toArray s 0 0 (va_A (wX4 cy a o S) s.heap.size)) (F0 m 56 ls []) := by
      intro S3 H locs ls h hP hD hS hl
      rw [hj4] at h
      exact W.vret hx hb hr (fun t ht hW => ⟨⟨S3, rfl, some_in h, by rw [ht]; exact hP, hD⟩, hS.F ht⟩) hS.2.2 dX4_put_56
    refine lv_if_eq (tgt := 56) hx hb dX4_put_37 (by decide) (fun cc => ?_) (fun cc => ?_)
    · have h := ite_p cc h
      exact Jj4 S s.heap [] ls h hP hD hS (lv_sub hl [] rfl)
    · have h := ite_n cc h
      refine lv_aload_n hx hb dX4_put_40 rfl (lv_at hl 1 rfl) ?_
      refine va_get (D := D) (ci := 4) (v := .ref (a (o + 1))) (C := RX4) (T := TX4) (N := 1) hx hb hts hinX4 hown hK hP 0 rfl rfl 0 (by decide) hf9 (fun _ h9 => h9) rfl dX4_put_41 ?_
      refine lv_iload_n hx hb dX4_put_44 rfl (lv_at hl 2 rfl) ?_
      refine lv_iconst (v := (4 : Int32)) hx hb dX4_put_45 (by decide) ?_
      refine lv_imul hx hb dX4_put_46 ?_
      refine lv_iload_n hx hb dX4_put_47 rfl (lv_at hl 3 rfl) ?_
      refine lv_iadd hx hb dX4_put_48 ?_
      refine lv_iconst (v := (4 : Int32)) hx hb dX4_put_49 (by decide) ?_
      refine lv_imul hx hb dX4_put_50 ?_
      refine lv_iload_n hx hb dX4_put_51 rfl (lv_at hl 4 rfl) ?_
      refine lv_iadd hx hb dX4_put_52 ?_
      refine lv_iload hx hb dX4_put_53 (lv_at hl 5 rfl) ?_
      obtain ⟨g5, h⟩ := gd_some h
      refine r_ast (f := (gX4_places S)) (f' := (upd (gX4_places S) ((((((p1 * (4 : Int32)) + p2) * (4 : Int32)) + p3)).toNatClampNeg) p4)) (n := 192) (ws' := (wX4 cy a o (uX4_places S (upd (gX4_places S) ((((((p1 * (4 : Int32)) + p2) * (4 : Int32)) + p3)).toNatClampNeg) p4)))) hx hb hK hP hD hS 1 0 rfl rfl (gIn_in g5) rfl rfl dX4_put_55 (fun H locs hP hD hS => ?_)
      obtain ⟨S6, eS7, h⟩ := lt_elim h
      have hP : va_P D vwCl (wX4 cy a o S6) H := by rw [eS7]; exact hP
      have hD : va_D (va_A (wX4 cy a o S) s.heap.size) (wX4 cy a o S6) := by rw [eS7]; exact hD
      exact Jj4 S6 H locs ls h hP hD hS (lv_sub hl [] rfl)
  obtain ⟨j8, hj8, h⟩ := jn_elim h
  have Jj8 : ∀ (ls : Array Slot), j8 () = some rs → lv_has ls 6 [(0, .ref (a o)), (1, .int p1), (2, .int p2), (3, .int p3), (4, .int p4)] → W p l e (headSpec wsX4_put ({ frames := 0, cells := 0, slots := 0, locals := 0 } : Room)).room s m ([.ref (a o), .int p1, .int p2, .int p3, .int p4] : List Value).toArray below meth c s.heap [] 0 0 (MQ below (va_Qv (fun (u : SX4) => u = rs) (fun u t => mB D s.heap.size (wX4 cy a o S) (wX4 cy a o u) t) (va_A (wX4 cy a o S) s.heap.size)) ([.ref (a o), .int p1, .int p2, .int p3, .int p4] : List Value).toArray s 0 0 (va_A (wX4 cy a o S) s.heap.size)) (F0 m 32 ls []) := by
    intro ls h hl
    rw [hj8] at h
    refine lv_iconst (v := (0 : Int32)) hx hb dX4_put_32 (by decide) ?_
    exact Jj2 (0 : Int32) ls h (lv_sub hl [0, 1, 2, 3, 4] rfl)
  refine lv_if_lt (tgt := 32) hx hb dX4_put_1 (by decide) (fun cc => ?_) (fun cc => ?_)
  · have h := ite_p cc h
    exact Jj8  ls h (lv_sub hl [0, 1, 2, 3, 4] rfl)
  · have h := ite_n cc h
    refine lv_iload_n hx hb dX4_put_4 rfl (lv_at hl 1 rfl) ?_
    refine lv_bipush (v := (12 : Int32)) hx hb dX4_put_5 (by decide) ?_
    refine lv_icmp_ge (tgt := 32) hx hb dX4_put_7 (by decide) (fun cc => ?_) (fun cc => ?_)
    · have h := ite_p cc h
      exact Jj8  ls h (lv_sub hl [0, 1, 2, 3, 4] rfl)
    · have h := ite_n cc h
      refine lv_iload_n hx hb dX4_put_10 rfl (lv_at hl 2 rfl) ?_
      refine lv_if_lt (tgt := 32) hx hb dX4_put_11 (by decide) (fun cc => ?_) (fun cc => ?_)
      · have h := ite_p cc h
        exact Jj8  ls h (lv_sub hl [0, 1, 2, 3, 4] rfl)
      · have h := ite_n cc h
        refine lv_iload_n hx hb dX4_put_14 rfl (lv_at hl 2 rfl) ?_
        refine lv_iconst (v := (4 : Int32)) hx hb dX4_put_15 (by decide) ?_
        refine lv_icmp_ge (tgt := 32) hx hb dX4_put_16 (by decide) (fun cc => ?_) (fun cc => ?_)
        · have h := ite_p cc h
          exact Jj8  ls h (lv_sub hl [0, 1, 2, 3, 4] rfl)
        · have h := ite_n cc h
          refine lv_iload_n hx hb dX4_put_19 rfl (lv_at hl 3 rfl) ?_
          refine lv_if_lt (tgt := 32) hx hb dX4_put_20 (by decide) (fun cc => ?_) (fun cc => ?_)
          · have h := ite_p cc h
            exact Jj8  ls h (lv_sub hl [0, 1, 2, 3, 4] rfl)
          · have h := ite_n cc h
            refine lv_iload_n hx hb dX4_put_23 rfl (lv_at hl 3 rfl) ?_
            refine lv_iconst (v := (4 : Int32)) hx hb dX4_put_24 (by decide) ?_
            refine lv_icmp_ge (tgt := 32) hx hb dX4_put_25 (by decide) (fun cc => ?_) (fun cc => ?_)
            · have h := ite_p cc h
              exact Jj8  ls h (lv_sub hl [0, 1, 2, 3, 4] rfl)
            · have h := ite_n cc h
              refine lv_iconst (v := (1 : Int32)) hx hb dX4_put_28 (by decide) ?_
              refine lv_goto (tgt := 33) hx hb dX4_put_29 (by decide) ?_
              exact Jj2 (1 : Int32) ls h (lv_sub hl [0, 1, 2, 3, 4] rfl)
set_option maxHeartbeats 4000000 in
set_option maxRecDepth 100000 in
theorem qX4_empty (l : Launch) (D : va_G) (cy : Nat → ClassId) (a : Nat → Nat) (o : Nat) (S : SX4) (p1 : Int32) (p2 : Int32) (sz : Nat) (rs : SX4) (h : DX4_empty S p1 p2 = some rs) : Met l yX4_empty wsX4_empty ({ frames := 1, cells := 0, slots := 0, locals := 25 } : Room) (mP D cy sz [.ref (a o), .int p1, .int p2] (wX4 cy a o S)) (va_Qv (fun (u : SX4) => u = rs) (fun u t => mB D sz (wX4 cy a o S) (wX4 cy a o u) t) (va_A (wX4 cy a o S) sz)) 0 0 (va_A (wX4 cy a o S) sz) := by
  refine Met.ofW (cc := cX4_empty) (maxL := 4) (ret := none) (by decide) rfl ?_
  intro p e s m args below meth c s₁ B hml hv
  obtain ⟨rfl, hsz, hP, hG, hD0⟩ := hv
  have hx := B.exec
  have hb := B.bytes
  have hr := B.returns
  have hts := atoms_spec (ws := wsX4_empty) B.pre
  have hown : s.vm.findClass RX4 = some m.cls := findClass_of_methodNamed B.named
  have hlocks := B.notSynchronized
  have hK := hG.1
  subst hsz
  have hD := hD0.self (sz := s.heap.size)
  have hA : ∀ q : Nat, s.heap.size ≤ q → (va_A (wX4 cy a o S) s.heap.size) q := fun q h => Or.inr h
  have hS : va_S (va_A (wX4 cy a o S) s.heap.size) s.heap s.heap [] := va_S.rf
  have hl := lv_entry ([.ref (a o), .int p1, .int p2]) (n := 4) (Nat.le_of_ble_eq_true rfl)
  rw [lg_entry_eq]
  generalize (lg_sl ([.ref (a o), .int p1, .int p2]) ++ List.replicate (4 - (lg_sl ([.ref (a o), .int p1, .int p2])).length) Slot.unset).toArray = ls at hl ⊢
  have hl : lv_has ls 4 [(0, .ref (a o)), (1, .int p1), (2, .int p2)] := hl
  rw [DX4_empty] at h
  refine lv_iconst (v := (0 : Int32)) hx hb dX4_empty_0 (by decide) ?_
  refine lv_istore_n (lv' := [(3, .int (0 : Int32)), (0, .ref (a o)), (1, .int p1), (2, .int p2)]) hx hb dX4_empty_1 rfl hl (by decide) rfl (fun ls hl => ?_)
  have L10 : ∀ (c1_1 : Int32) (c2_2 : Int32) (k4 : SX4 → Option (SX4)) (hk4 : ∀ (S5 : SX4) (H : Heap) (locs : List Loc) (ls : Array Slot), k4 S5 = some rs → va_P D vwCl (wX4 cy a o S5) H → va_D (va_A (wX4 cy a o S) s.heap.size) (wX4 cy a o S5) → va_S (va_A (wX4 cy a o S) s.heap.size) s.heap H locs → lv_has ls 4 [] → W p l e (headSpec wsX4_empty ({ frames := 1, cells := 0, slots := 0, locals := 25 } : Room)).room s m ([.ref (a o), .int p1, .int p2] : List Value).toArray below meth c H locs 0 0 (MQ below (va_Qv (fun (u : SX4) => u = rs) (fun u t => mB D s.heap.size (wX4 cy a o S) (wX4 cy a o u) t) (va_A (wX4 cy a o S) s.heap.size)) ([.ref (a o), .int p1, .int p2] : List Value).toArray s 0 0 (va_A (wX4 cy a o S) s.heap.size)) (F0 m 21 ls [])) (f : Nat) (v3_7 : Int32) (S3 : SX4) (H : Heap) (locs : List Loc) (ls : Array Slot), DX4_empty_L2 c1_1 c2_2 k4 f v3_7 S3 = some rs → va_P D vwCl (wX4 cy a o S3) H → va_D (va_A (wX4 cy a o S) s.heap.size) (wX4 cy a o S3) → va_S (va_A (wX4 cy a o S) s.heap.size) s.heap H locs → lv_has ls 4 [(0, .ref (a o)), (1, .int c1_1), (2, .int c2_2), (3, .int v3_7)] → W p l e (headSpec wsX4_empty ({ frames := 1, cells := 0, slots := 0, locals := 25 } : Room)).room s m ([.ref (a o), .int p1, .int p2] : List Value).toArray below meth c H locs 0 0 (MQ below (va_Qv (fun (u : SX4) => u = rs) (fun u t => mB D s.heap.size (wX4 cy a o S) (wX4 cy a o u) t) (va_A (wX4 cy a o S) s.heap.size)) ([.ref (a o), .int p1, .int p2] : List Value).toArray s 0 0 (va_A (wX4 cy a o S) s.heap.size)) (F0 m 2 ls []) := by
    intro c1_1 c2_2 k4 hk4 f
    induction f with
    | zero =>
      intro v3_7 S3 H locs ls h hP hD hS hl
      rw [DX4_empty_L2] at h
      cases h
    | succ f ih =>
      intro v3_7 S3 H locs ls h hP hD hS hl
      rw [DX4_empty_L2] at h
      refine lv_iload_n hx hb dX4_empty_2 rfl (lv_at hl 3 rfl) ?_
      refine lv_iconst (v := (4 : Int32)) hx hb dX4_empty_3 (by decide) ?_
      refine lv_icmp_ge (tgt := 21) hx hb dX4_empty_4 (by decide) (fun cc => ?_) (fun cc => ?_)
      · have h := ite_p cc h
        exact hk4 S3 H locs ls h hP hD hS (lv_sub hl [] rfl)
      · have h := ite_n cc h
        refine lv_aload_n hx hb dX4_empty_7 rfl (lv_at hl 0 rfl) ?_
        refine lv_iload_n hx hb dX4_empty_8 rfl (lv_at hl 1 rfl) ?_
        refine lv_iload_n hx hb dX4_empty_9 rfl (lv_at hl 2 rfl) ?_
        refine lv_iload_n hx hb dX4_empty_10 rfl (lv_at hl 3 rfl) ?_
        refine lv_iconst (v := (-1 : Int32)) hx hb dX4_empty_11 (by decide) ?_
        obtain ⟨x8, e9, h⟩ := bd_some h
        refine smVv (As := [.int c1_1, .int c2_2, .int v3_7, .int (-1 : Int32)]) (rest := []) (ws' := (wX4 cy a o x8)) (q0 := 0) (qX4_put l D cy a o S3 c1_1 c2_2 v3_7 (-1 : Int32) (H).size x8 e9) ⟨hx, hb, hml, hown, hts⟩ (cwV 4 hts gX4_empty_X4_put rfl rfl rfl (by decide +kernel) ⟨Nat.le_of_ble_eq_true rfl, Nat.le_of_ble_eq_true rfl⟩) hG hP hD hS hA (pm1 (X := ([] : va_W)) (c := (wX4 cy a o S3)) (Y := ([] : va_W)) (show (wX4 cy a o S3) = ([] : va_W) ++ ((wX4 cy a o S3) ++ ([] : va_W)) from by simp only [List.append_assoc, List.nil_append, List.append_nil] <;> rfl)) (pm1 (X := ([] : va_W)) (c := (wX4 cy a o x8)) (Y := ([] : va_W)) (show (wX4 cy a o x8) = ([] : va_W) ++ ((wX4 cy a o x8) ++ ([] : va_W)) from by simp only [List.append_assoc, List.nil_append, List.append_nil] <;> rfl)) rfl rfl rfl hl.1 rfl (Nat.le_of_ble_eq_true rfl) dX4_empty_12 ⟨Nat.zero_le _, Nat.zero_le _⟩ (fun H locs hP hD hS => ?_)
        refine lv_iinc (v := (v3_7 + (1 : Int32))) (lv' := [(3, .int (v3_7 + (1 : Int32))), (0, .ref (a o)), (1, .int c1_1), (2, .int c2_2)]) hx hb dX4_empty_15 hl (k := 3) rfl (by rfl) (by decide) rfl (fun ls hl => ?_)
        refine lv_goto (tgt := 2) hx hb dX4_empty_18 (by decide) ?_
        exact ih (v3_7 + (1 : Int32)) x8 H locs ls h hP hD hS (lv_sub hl [1, 2, 3, 0] rfl)
  refine L10 p1 p2 _ ?_ fu (0 : Int32) S s.heap [] ls h hP hD hS (lv_sub hl [1, 2, 3, 0] rfl)
  intro S6 H locs ls h hP hD hS hl
  exact W.vret hx hb hr (fun t ht hW => ⟨⟨S6, rfl, some_in h, by rw [ht]; exact hP, hD⟩, hS.F ht⟩) hS.2.2 dX4_empty_21
set_option maxHeartbeats 4000000 in
set_option maxRecDepth 100000 in
theorem qX6_put (l : Launch) (D : va_G) (cy : Nat → ClassId) (a : Nat → Nat) (o : Nat) (S : SX6) (p1 : Int32) (p2 : Int32) (p3 : Int32) (sz : Nat) (rs : SX6) (h : DX6_put S p1 p2 p3 = some rs) : Met l yX6_put wsX6_put ({ frames := 0, cells := 0, slots := 0, locals := 0 } : Room) (mP D cy sz [.ref (a o), .int p1, .int p2, .int p3] (wX6 cy a o S)) (va_Qv (fun (u : SX6) => u = rs) (fun u t => mB D sz (wX6 cy a o S) (wX6 cy a o u) t) (va_A (wX6 cy a o S) sz)) 0 0 (va_A (wX6 cy a o S) sz) := by
  refine Met.ofW (cc := cX6_put) (maxL := 4) (ret := none) (by decide) rfl ?_
  intro p e s m args below meth c s₁ B hml hv
  obtain ⟨rfl, hsz, hP, hG, hD0⟩ := hv
  have hx := B.exec
  have hb := B.bytes
  have hr := B.returns
  have hts := atoms_spec (ws := wsX6_put) B.pre
  have hown : s.vm.findClass RX6 = some m.cls := findClass_of_methodNamed B.named
  have hlocks := B.notSynchronized
  have hK := hG.1
  subst hsz
  have hD := hD0.self (sz := s.heap.size)
  have hA : ∀ q : Nat, s.heap.size ≤ q → (va_A (wX6 cy a o S) s.heap.size) q := fun q h => Or.inr h
  have hS : va_S (va_A (wX6 cy a o S) s.heap.size) s.heap s.heap [] := va_S.rf
  have hinX6 := (by decide +kernel : ∀ w ∈ wsX60, w ∈ wsX6_put)
  have hf11 := hts (.fieldLink RX6 11 "PianoRounds$Sheet" "rows" "[[I") (by decide +kernel)
  have hl := lv_entry ([.ref (a o), .int p1, .int p2, .int p3]) (n := 4) (Nat.le_of_ble_eq_true rfl)
  rw [lg_entry_eq]
  generalize (lg_sl ([.ref (a o), .int p1, .int p2, .int p3]) ++ List.replicate (4 - (lg_sl ([.ref (a o), .int p1, .int p2, .int p3])).length) Slot.unset).toArray = ls at hl ⊢
  have hl : lv_has ls 4 [(0, .ref (a o)), (1, .int p1), (2, .int p2), (3, .int p3)] := hl
  rw [DX6_put] at h
  refine lv_iload_n hx hb dX6_put_0 rfl (lv_at hl 1 rfl) ?_
  obtain ⟨j2, hj2, h⟩ := jn_elim h
  have Jj2 : ∀ (S1 : SX6) (H : Heap) (locs : List Loc) (ls : Array Slot), j2 S1 = some rs → va_P D vwCl (wX6 cy a o S1) H → va_D (va_A (wX6 cy a o S) s.heap.size) (wX6 cy a o S1) → va_S (va_A (wX6 cy a o S) s.heap.size) s.heap H locs → lv_has ls 4 [] → W p l e (headSpec wsX6_put ({ frames := 0, cells := 0, slots := 0, locals := 0 } : Room)).room s m ([.ref (a o), .int p1, .int p2, .int p3] : List Value).toArray below meth c H locs 0 0 (MQ below (va_Qv (fun (u : SX6) => u = rs) (fun u t => mB D s.heap.size (wX6 cy a o S) (wX6 cy a o u) t) (va_A (wX6 cy a o S) s.heap.size)) ([.ref (a o), .int p1, .int p2, .int p3] : List Value).toArray s 0 0 (va_A (wX6 cy a o S) s.heap.size)) (F0 m 29 ls []) := by
    intro S1 H locs ls h hP hD hS hl
    rw [hj2] at h
    exact W.vret hx hb hr (fun t ht hW => ⟨⟨S1, rfl, some_in h, by rw [ht]; exact hP, hD⟩, hS.F ht⟩) hS.2.2 dX6_put_29
  refine lv_if_lt (tgt := 29) hx hb dX6_put_1 (by decide) (fun cc => ?_) (fun cc => ?_)
  · have h := ite_p cc h
    exact Jj2 S s.heap [] ls h hP hD hS (lv_sub hl [] rfl)
  · have h := ite_n cc h
    refine lv_iload_n hx hb dX6_put_4 rfl (lv_at hl 1 rfl) ?_
    refine lv_bipush (v := (7 : Int32)) hx hb dX6_put_5 (by decide) ?_
    refine lv_icmp_ge (tgt := 29) hx hb dX6_put_7 (by decide) (fun cc => ?_) (fun cc => ?_)
    · have h := ite_p cc h
      exact Jj2 S s.heap [] ls h hP hD hS (lv_sub hl [] rfl)
    · have h := ite_n cc h
      refine lv_iload_n hx hb dX6_put_10 rfl (lv_at hl 2 rfl) ?_
      refine lv_if_lt (tgt := 29) hx hb dX6_put_11 (by decide) (fun cc => ?_) (fun cc => ?_)
      · have h := ite_p cc h
        exact Jj2 S s.heap [] ls h hP hD hS (lv_sub hl [] rfl)
      · have h := ite_n cc h
        refine lv_iload_n hx hb dX6_put_14 rfl (lv_at hl 2 rfl) ?_
        refine lv_bipush (v := (12 : Int32)) hx hb dX6_put_15 (by decide) ?_
        refine lv_icmp_ge (tgt := 29) hx hb dX6_put_17 (by decide) (fun cc => ?_) (fun cc => ?_)
        · have h := ite_p cc h
          exact Jj2 S s.heap [] ls h hP hD hS (lv_sub hl [] rfl)
        · have h := ite_n cc h
          refine lv_aload_n hx hb dX6_put_20 rfl (lv_at hl 0 rfl) ?_
          refine va_get (D := D) (ci := 6) (v := .ref (a (o + 1))) (C := RX6) (T := TX6) (N := 1) hx hb hts hinX6 hown hK hP 0 rfl rfl 0 (by decide) hf11 (fun _ h9 => h9) rfl dX6_put_21 ?_
          refine lv_iload_n hx hb dX6_put_24 rfl (lv_at hl 1 rfl) ?_
          obtain ⟨g3, h⟩ := gd_some h
          refine r_aldR (n := 7) (o := o + 1) (ad := a) (j := (p1).toNatClampNeg) hx hb hK hP 1 2 rfl rfl (gIn_in g3) rfl dX6_put_25 ?_
          refine lv_iload_n hx hb dX6_put_26 rfl (lv_at hl 2 rfl) ?_
          refine lv_iload_n hx hb dX6_put_27 rfl (lv_at hl 3 rfl) ?_
          obtain ⟨g4, h⟩ := gd_some h
          refine r_ast (f := ((gX6_rows S) ((p1).toNatClampNeg))) (f' := (upd ((gX6_rows S) ((p1).toNatClampNeg)) ((p2).toNatClampNeg) p3)) (n := 12) (ws' := (wX6 cy a o (uX6_rows S (upd2 (gX6_rows S) ((p1).toNatClampNeg) (upd ((gX6_rows S) ((p1).toNatClampNeg)) ((p2).toNatClampNeg) p3))))) hx hb hK hP hD hS (1 + 1 + ((p1).toNatClampNeg)) 0 (all7 (P := fun j => (wX6 cy a o S)[1 + 1 + j]? = some (a (o + 1 + 1 + j), .inl (cy 0, 12, .inl ((gX6_rows S) j)))) rfl rfl rfl rfl rfl rfl rfl _ (gIn_lt g3)) rfl (gIn_in g4) rfl (all7 (P := fun j => (wX6 cy a o S).set (1 + 1 + j) (a (o + 1 + 1 + j), .inl (cy 0, 12, .inl (upd ((gX6_rows S) j) ((p2).toNatClampNeg) p3))) = (wX6 cy a o (uX6_rows S (upd2 (gX6_rows S) j (upd ((gX6_rows S) j) ((p2).toNatClampNeg) p3))))) rfl rfl rfl rfl rfl rfl rfl _ (gIn_lt g3)) dX6_put_28 (fun H locs hP hD hS => ?_)
          obtain ⟨S5, eS6, h⟩ := lt_elim h
          have hP : va_P D vwCl (wX6 cy a o S5) H := by rw [eS6]; exact hP
          have hD : va_D (va_A (wX6 cy a o S) s.heap.size) (wX6 cy a o S5) := by rw [eS6]; exact hD
          exact Jj2 S5 H locs ls h hP hD hS (lv_sub hl [] rfl)
set_option maxHeartbeats 4000000 in
set_option maxRecDepth 100000 in
theorem qX7_letNextPlay (l : Launch) (D : va_G) (cy : Nat → ClassId) (a : Nat → Nat) (o : Nat) (S : SX7) (p1 : Int32) (sz : Nat) (rs : Int32 × SX7) (h : DX7_letNextPlay S p1 = some rs) : Met l yX7_letNextPlay wsX7_letNextPlay ({ frames := 1, cells := 0, slots := 0, locals := 22 } : Room) (mP D cy sz [.ref (a o), .int p1] (wX7 cy a o S)) (va_Qi (fun r (u : SX7) => (r, u) = rs) (fun u t => mB D sz (wX7 cy a o S) (wX7 cy a o u) t) (va_A (wX7 cy a o S) sz)) 0 0 (va_A (wX7 cy a o S) sz) := by
  refine Met.ofW (cc := cX7_letNextPlay) (maxL := 3) (ret := (some .int)) (by decide) rfl ?_
  intro p e s m args below meth c s₁ B hml hv
  obtain ⟨rfl, hsz, hP, hG, hD0⟩ := hv
  have hx := B.exec
  have hb := B.bytes
  have hr := B.returns
  have hts := atoms_spec (ws := wsX7_letNextPlay) B.pre
  have hown : s.vm.findClass RX7 = some m.cls := findClass_of_methodNamed B.named
  have hlocks := B.notSynchronized
  have hK := hG.1
  subst hsz
  have hD := hD0.self (sz := s.heap.size)
  have hA : ∀ q : Nat, s.heap.size ≤ q → (va_A (wX7 cy a o S) s.heap.size) q := fun q h => Or.inr h
  have hS : va_S (va_A (wX7 cy a o S) s.heap.size) s.heap s.heap [] := va_S.rf
  have hinX7 := (by decide +kernel : ∀ w ∈ wsX70, w ∈ wsX7_letNextPlay)
  have hf25 := hts (.fieldLink RX7 25 "PianoRounds$Stage" "played" "I") (by decide +kernel)
  have hf15 := hts (.fieldLink RX7 15 "PianoRounds$Stage" "slips" "[I") (by decide +kernel)
  have hl := lv_entry ([.ref (a o), .int p1]) (n := 3) (Nat.le_of_ble_eq_true rfl)
  rw [lg_entry_eq]
  generalize (lg_sl ([.ref (a o), .int p1]) ++ List.replicate (3 - (lg_sl ([.ref (a o), .int p1])).length) Slot.unset).toArray = ls at hl ⊢
  have hl : lv_has ls 3 [(0, .ref (a o)), (1, .int p1)] := hl
  rw [DX7_letNextPlay] at h
  refine lv_aload_n hx hb dX7_letNextPlay_0 rfl (lv_at hl 0 rfl) ?_
  refine lv_aload_n hx hb dX7_letNextPlay_1 rfl (lv_at hl 0 rfl) ?_
  refine va_get (D := D) (ci := 7) (v := .int (gX7_played S)) (C := RX7) (T := TX7) (N := 5) hx hb hts hinX7 hown hK hP 0 rfl rfl 1 (by decide) hf25 (fun _ h9 => h9) rfl dX7_letNextPlay_2 ?_
  obtain ⟨x1, e2, h⟩ := bd_some h
  refine pcV (As := [.int (gX7_played S)]) (rest := []) (q0 := 0) (qX7_playerAt l D cy a o S (gX7_played S) x1 e2) ⟨hx, hb, hml, hown, hts⟩ (cwV 1 hts gX7_letNextPlay_X7_playerAt rfl rfl rfl (by decide +kernel) ⟨Nat.le_of_ble_eq_true rfl, Nat.le_of_ble_eq_true rfl⟩) hG hP rfl rfl rfl hl.1 rfl (Nat.le_of_ble_eq_true rfl) dX7_letNextPlay_5 ⟨Nat.zero_le _, Nat.zero_le _⟩ ?_
  refine lv_istore_n (lv' := [(2, .int x1), (0, .ref (a o)), (1, .int p1)]) hx hb dX7_letNextPlay_8 rfl hl (by decide) rfl (fun ls hl => ?_)
  refine lv_iload_n hx hb dX7_letNextPlay_9 rfl (lv_at hl 0 rfl) ?_
  refine lv_iconst (v := (0 : Int32)) hx hb dX7_letNextPlay_10 (by decide) ?_
  refine lv_bipush (v := (11 : Int32)) hx hb dX7_letNextPlay_11 (by decide) ?_
  obtain ⟨x3, e4, h⟩ := bd_some h
  refine pcSN (As := [.int x1, .int (0 : Int32), .int (11 : Int32)]) (rest := []) (qX11_isBetween l D cy  x1 (0 : Int32) (11 : Int32) x3 e4) ⟨hx, hb, hml, hown, hts⟩ ⟨va_cnB (y := yX11_isBetween) 3 hts gX7_letNextPlay_X11_isBetween_n50 rfl rfl rfl (hG.2.2.1 (.methodLinkNest "PianoRounds$Stage" 50 ⟨"PianoRounds", "isBetween", "(III)Z"⟩ "PianoRounds") (by decide +kernel)) (hts (.initialized RX11) (by decide +kernel)) (by decide +kernel) ⟨Nat.le_of_ble_eq_true rfl, Nat.le_of_ble_eq_true rfl⟩, hts (.static yX11_isBetween) (by decide +kernel), trivial⟩ hG (hP.sub [] rfl) rfl hl.1 rfl (Nat.le_of_ble_eq_true rfl) dX7_letNextPlay_13 ⟨Nat.zero_le _, Nat.zero_le _⟩ ?_
  obtain ⟨j6, hj6, h⟩ := jn_elim h
  have Jj6 : ∀ (S5 : SX7) (H : Heap) (locs : List Loc) (ls : Array Slot), j6 S5 = some rs → va_P D vwCl (wX7 cy a o S5) H → va_D (va_A (wX7 cy a o S) s.heap.size) (wX7 cy a o S5) → va_S (va_A (wX7 cy a o S) s.heap.size) s.heap H locs → lv_has ls 3 [(2, .int x1)] → W p l e (headSpec wsX7_letNextPlay ({ frames := 1, cells := 0, slots := 0, locals := 22 } : Room)).room s m ([.ref (a o), .int p1] : List Value).toArray below meth c H locs 0 0 (MQ below (va_Qi (fun r (u : SX7) => (r, u) = rs) (fun u t => mB D s.heap.size (wX7 cy a o S) (wX7 cy a o u) t) (va_A (wX7 cy a o S) s.heap.size)) ([.ref (a o), .int p1] : List Value).toArray s 0 0 (va_A (wX7 cy a o S) s.heap.size)) (F0 m 36 ls []) := by
    intro S5 H locs ls h hP hD hS hl
    rw [hj6] at h
    refine lv_iload_n hx hb dX7_letNextPlay_36 rfl (lv_at hl 0 rfl) ?_
    exact W.iret (v := x1) hx hb hr (fun t ht hW => ⟨⟨x1, S5, rfl, some_in h, by rw [ht]; exact hP, hD⟩, hS.F ht⟩) hS.2.2 dX7_letNextPlay_37
  refine lv_if_eq (tgt := 36) hx hb dX7_letNextPlay_16 (by decide) (fun cc => ?_) (fun cc => ?_)
  · have h := ite_p cc h
    exact Jj6 S s.heap [] ls h hP hD hS (lv_sub hl [0] rfl)
  · have h := ite_n cc h
    refine lv_aload_n hx hb dX7_letNextPlay_19 rfl (lv_at hl 1 rfl) ?_
    refine va_get (D := D) (ci := 7) (v := .ref (a (o + 2))) (C := RX7) (T := TX7) (N := 5) hx hb hts hinX7 hown hK hP 0 rfl rfl 4 (by decide) hf15 (fun _ h9 => h9) rfl dX7_letNextPlay_20 ?_
    refine lv_iload_n hx hb dX7_letNextPlay_23 rfl (lv_at hl 0 rfl) ?_
    refine lv_iload_n hx hb dX7_letNextPlay_24 rfl (lv_at hl 2 rfl) ?_
    obtain ⟨g7, h⟩ := gd_some h
    refine r_ast (f := (gX7_slips S)) (f' := (upd (gX7_slips S) ((x1).toNatClampNeg) p1)) (n := 12) (ws' := (wX7 cy a o (uX7_slips S (upd (gX7_slips S) ((x1).toNatClampNeg) p1)))) hx hb hK hP hD hS 2 0 rfl rfl (gIn_in g7) rfl rfl dX7_letNextPlay_25 (fun H locs hP hD hS => ?_)
    obtain ⟨S8, eS9, h⟩ := lt_elim h
    have hP : va_P D vwCl (wX7 cy a o S8) H := by rw [eS9]; exact hP
    have hD : va_D (va_A (wX7 cy a o S) s.heap.size) (wX7 cy a o S8) := by rw [eS9]; exact hD
    refine lv_aload_n hx hb dX7_letNextPlay_26 rfl (lv_at hl 1 rfl) ?_
    refine lv_dup hx hb dX7_letNextPlay_27 rfl ?_
    refine va_get (D := D) (ci := 7) (v := .int (gX7_played S8)) (C := RX7) (T := TX7) (N := 5) hx hb hts hinX7 hown hK hP 0 rfl rfl 1 (by decide) hf25 (fun _ h9 => h9) rfl dX7_letNextPlay_28 ?_
    refine lv_iconst (v := (1 : Int32)) hx hb dX7_letNextPlay_31 (by decide) ?_
    refine lv_iadd hx hb dX7_letNextPlay_32 ?_
    refine va_put (D := D) (ci := 7) (v := .int ((gX7_played S8) + (1 : Int32))) (ty := .int) (C := RX7) (T := TX7) (N := 5) hx hb hts hinX7 tyX7 tyX7_ok nmX7 hown hK hP hD hS 0 rfl rfl 1 (by decide) hf25 (fun _ h9 => h9) rfl (by decide +kernel) rfl rfl (Nat.le_of_ble_eq_true rfl) dX7_letNextPlay_33 (fun H locs hP hD hS => ?_)
    have hP : va_P D vwCl (wX7 cy a o (uX7_played S8 ((gX7_played S8) + (1 : Int32)))) H := hP
    have hD : va_D (va_A (wX7 cy a o S) s.heap.size) (wX7 cy a o (uX7_played S8 ((gX7_played S8) + (1 : Int32)))) := hD
    obtain ⟨S10, eS11, h⟩ := lt_elim h
    have hP : va_P D vwCl (wX7 cy a o S10) H := by rw [eS11]; exact hP
    have hD : va_D (va_A (wX7 cy a o S) s.heap.size) (wX7 cy a o S10) := by rw [eS11]; exact hD
    exact Jj6 S10 H locs ls h hP hD hS (lv_sub hl [0] rfl)
set_option maxHeartbeats 4000000 in
set_option maxRecDepth 100000 in
theorem qX8_append (l : Launch) (D : va_G) (cy : Nat → ClassId) (a : Nat → Nat) (o : Nat) (S : SX8) (p1 : Int32) (sz : Nat) (rs : Int32 × SX8) (h : DX8_append S p1 = some rs) : Met l yX8_append wsX8_append ({ frames := 0, cells := 0, slots := 0, locals := 0 } : Room) (mP D cy sz [.ref (a o), .int p1] (wX8 cy a o S)) (va_Qi (fun r (u : SX8) => (r, u) = rs) (fun u t => mB D sz (wX8 cy a o S) (wX8 cy a o u) t) (va_A (wX8 cy a o S) sz)) 0 0 (va_A (wX8 cy a o S) sz) := by
  refine Met.ofW (cc := cX8_append) (maxL := 2) (ret := (some .int)) (by decide) rfl ?_
  intro p e s m args below meth c s₁ B hml hv
  obtain ⟨rfl, hsz, hP, hG, hD0⟩ := hv
  have hx := B.exec
  have hb := B.bytes
  have hr := B.returns
  have hts := atoms_spec (ws := wsX8_append) B.pre
  have hown : s.vm.findClass RX8 = some m.cls := findClass_of_methodNamed B.named
  have hlocks := B.notSynchronized
  have hK := hG.1
  subst hsz
  have hD := hD0.self (sz := s.heap.size)
  have hA : ∀ q : Nat, s.heap.size ≤ q → (va_A (wX8 cy a o S) s.heap.size) q := fun q h => Or.inr h
  have hS : va_S (va_A (wX8 cy a o S) s.heap.size) s.heap s.heap [] := va_S.rf
  have hinX8 := (by decide +kernel : ∀ w ∈ wsX80, w ∈ wsX8_append)
  have hf21 := hts (.fieldLink RX8 21 "PianoRounds$Text" "length" "I") (by decide +kernel)
  have hf9 := hts (.fieldLink RX8 9 "PianoRounds$Text" "codes" "[I") (by decide +kernel)
  have hl := lv_entry ([.ref (a o), .int p1]) (n := 2) (Nat.le_of_ble_eq_true rfl)
  rw [lg_entry_eq]
  generalize (lg_sl ([.ref (a o), .int p1]) ++ List.replicate (2 - (lg_sl ([.ref (a o), .int p1])).length) Slot.unset).toArray = ls at hl ⊢
  have hl : lv_has ls 2 [(0, .ref (a o)), (1, .int p1)] := hl
  rw [DX8_append] at h
  refine lv_aload_n hx hb dX8_append_0 rfl (lv_at hl 0 rfl) ?_
  refine va_get (D := D) (ci := 8) (v := .int (gX8_length S)) (C := RX8) (T := TX8) (N := 5) hx hb hts hinX8 hown hK hP 0 rfl rfl 0 (by decide) hf21 (fun _ h9 => h9) rfl dX8_append_1 ?_
  refine lv_bipush (v := (40 : Int32)) hx hb dX8_append_4 (by decide) ?_
  obtain ⟨j2, hj2, h⟩ := jn_elim h
  have Jj2 : ∀ (S1 : SX8) (H : Heap) (locs : List Loc) (ls : Array Slot), j2 S1 = some rs → va_P D vwCl (wX8 cy a o S1) H → va_D (va_A (wX8 cy a o S) s.heap.size) (wX8 cy a o S1) → va_S (va_A (wX8 cy a o S) s.heap.size) s.heap H locs → lv_has ls 2 [(0, .ref (a o))] → W p l e (headSpec wsX8_append ({ frames := 0, cells := 0, slots := 0, locals := 0 } : Room)).room s m ([.ref (a o), .int p1] : List Value).toArray below meth c H locs 0 0 (MQ below (va_Qi (fun r (u : SX8) => (r, u) = rs) (fun u t => mB D s.heap.size (wX8 cy a o S) (wX8 cy a o u) t) (va_A (wX8 cy a o S) s.heap.size)) ([.ref (a o), .int p1] : List Value).toArray s 0 0 (va_A (wX8 cy a o S) s.heap.size)) (F0 m 29 ls []) := by
    intro S1 H locs ls h hP hD hS hl
    rw [hj2] at h
    refine lv_aload_n hx hb dX8_append_29 rfl (lv_at hl 0 rfl) ?_
    refine va_get (D := D) (ci := 8) (v := .int (gX8_length S1)) (C := RX8) (T := TX8) (N := 5) hx hb hts hinX8 hown hK hP 0 rfl rfl 0 (by decide) hf21 (fun _ h9 => h9) rfl dX8_append_30 ?_
    exact W.iret (v := (gX8_length S1)) hx hb hr (fun t ht hW => ⟨⟨(gX8_length S1), S1, rfl, some_in h, by rw [ht]; exact hP, hD⟩, hS.F ht⟩) hS.2.2 dX8_append_33
  refine lv_icmp_ge (tgt := 29) hx hb dX8_append_6 (by decide) (fun cc => ?_) (fun cc => ?_)
  · have h := ite_p cc h
    exact Jj2 S s.heap [] ls h hP hD hS (lv_sub hl [0] rfl)
  · have h := ite_n cc h
    refine lv_aload_n hx hb dX8_append_9 rfl (lv_at hl 0 rfl) ?_
    refine va_get (D := D) (ci := 8) (v := .ref (a (o + 1))) (C := RX8) (T := TX8) (N := 5) hx hb hts hinX8 hown hK hP 0 rfl rfl 1 (by decide) hf9 (fun _ h9 => h9) rfl dX8_append_10 ?_
    refine lv_aload_n hx hb dX8_append_13 rfl (lv_at hl 0 rfl) ?_
    refine va_get (D := D) (ci := 8) (v := .int (gX8_length S)) (C := RX8) (T := TX8) (N := 5) hx hb hts hinX8 hown hK hP 0 rfl rfl 0 (by decide) hf21 (fun _ h9 => h9) rfl dX8_append_14 ?_
    refine lv_iload_n hx hb dX8_append_17 rfl (lv_at hl 1 rfl) ?_
    obtain ⟨g3, h⟩ := gd_some h
    refine r_ast (f := (gX8_codes S)) (f' := (upd (gX8_codes S) (((gX8_length S)).toNatClampNeg) p1)) (n := 40) (ws' := (wX8 cy a o (uX8_codes S (upd (gX8_codes S) (((gX8_length S)).toNatClampNeg) p1)))) hx hb hK hP hD hS 1 0 rfl rfl (gIn_in g3) rfl rfl dX8_append_18 (fun H locs hP hD hS => ?_)
    obtain ⟨S4, eS5, h⟩ := lt_elim h
    have hP : va_P D vwCl (wX8 cy a o S4) H := by rw [eS5]; exact hP
    have hD : va_D (va_A (wX8 cy a o S) s.heap.size) (wX8 cy a o S4) := by rw [eS5]; exact hD
    refine lv_aload_n hx hb dX8_append_19 rfl (lv_at hl 0 rfl) ?_
    refine lv_dup hx hb dX8_append_20 rfl ?_
    refine va_get (D := D) (ci := 8) (v := .int (gX8_length S4)) (C := RX8) (T := TX8) (N := 5) hx hb hts hinX8 hown hK hP 0 rfl rfl 0 (by decide) hf21 (fun _ h9 => h9) rfl dX8_append_21 ?_
    refine lv_iconst (v := (1 : Int32)) hx hb dX8_append_24 (by decide) ?_
    refine lv_iadd hx hb dX8_append_25 ?_
    refine va_put (D := D) (ci := 8) (v := .int ((gX8_length S4) + (1 : Int32))) (ty := .int) (C := RX8) (T := TX8) (N := 5) hx hb hts hinX8 tyX8 tyX8_ok nmX8 hown hK hP hD hS 0 rfl rfl 0 (by decide) hf21 (fun _ h9 => h9) rfl (by decide +kernel) rfl rfl (Nat.le_of_ble_eq_true rfl) dX8_append_26 (fun H locs hP hD hS => ?_)
    have hP : va_P D vwCl (wX8 cy a o (uX8_length S4 ((gX8_length S4) + (1 : Int32)))) H := hP
    have hD : va_D (va_A (wX8 cy a o S) s.heap.size) (wX8 cy a o (uX8_length S4 ((gX8_length S4) + (1 : Int32)))) := hD
    obtain ⟨S6, eS7, h⟩ := lt_elim h
    have hP : va_P D vwCl (wX8 cy a o S6) H := by rw [eS7]; exact hP
    have hD : va_D (va_A (wX8 cy a o S) s.heap.size) (wX8 cy a o S6) := by rw [eS7]; exact hD
    exact Jj2 S6 H locs ls h hP hD hS (lv_sub hl [0] rfl)
set_option maxHeartbeats 4000000 in
set_option maxRecDepth 100000 in
theorem qX8_readDigit (l : Launch) (D : va_G) (cy : Nat → ClassId) (a : Nat → Nat) (o : Nat) (S : SX8) (p1 : Int32) (p2 : Int32) (p3 : Int32) (sz : Nat) (rs : SX8) (h : DX8_readDigit S p1 p2 p3 = some rs) : Met l yX8_readDigit wsX8_readDigit ({ frames := 1, cells := 0, slots := 0, locals := 22 } : Room) (mP D cy sz [.ref (a o), .int p1, .int p2, .int p3] (wX8 cy a o S)) (va_Qv (fun (u : SX8) => u = rs) (fun u t => mB D sz (wX8 cy a o S) (wX8 cy a o u) t) (va_A (wX8 cy a o S) sz)) 0 0 (va_A (wX8 cy a o S) sz) := by
  refine Met.ofW (cc := cX8_readDigit) (maxL := 4) (ret := none) (by decide) rfl ?_
  intro p e s m args below meth c s₁ B hml hv
  obtain ⟨rfl, hsz, hP, hG, hD0⟩ := hv
  have hx := B.exec
  have hb := B.bytes
  have hr := B.returns
  have hts := atoms_spec (ws := wsX8_readDigit) B.pre
  have hown : s.vm.findClass RX8 = some m.cls := findClass_of_methodNamed B.named
  have hlocks := B.notSynchronized
  have hK := hG.1
  subst hsz
  have hD := hD0.self (sz := s.heap.size)
  have hA : ∀ q : Nat, s.heap.size ≤ q → (va_A (wX8 cy a o S) s.heap.size) q := fun q h => Or.inr h
  have hS : va_S (va_A (wX8 cy a o S) s.heap.size) s.heap s.heap [] := va_S.rf
  have hinX8 := (by decide +kernel : ∀ w ∈ wsX80, w ∈ wsX8_readDigit)
  have hf29 := hts (.fieldLink RX8 29 "PianoRounds$Text" "found" "I") (by decide +kernel)
  have hf15 := hts (.fieldLink RX8 15 "PianoRounds$Text" "numbers" "[I") (by decide +kernel)
  have hf18 := hts (.fieldLink RX8 18 "PianoRounds$Text" "starts" "[I") (by decide +kernel)
  have hl := lv_entry ([.ref (a o), .int p1, .int p2, .int p3]) (n := 4) (Nat.le_of_ble_eq_true rfl)
  rw [lg_entry_eq]
  generalize (lg_sl ([.ref (a o), .int p1, .int p2, .int p3]) ++ List.replicate (4 - (lg_sl ([.ref (a o), .int p1, .int p2, .int p3])).length) Slot.unset).toArray = ls at hl ⊢
  have hl : lv_has ls 4 [(0, .ref (a o)), (1, .int p1), (2, .int p2), (3, .int p3)] := hl
  rw [DX8_readDigit] at h
  refine lv_iload_n hx hb dX8_readDigit_0 rfl (lv_at hl 3 rfl) ?_
  obtain ⟨j2, hj2, h⟩ := jn_elim h
  have Jj2 : ∀ (S1 : SX8) (H : Heap) (locs : List Loc) (ls : Array Slot), j2 S1 = some rs → va_P D vwCl (wX8 cy a o S1) H → va_D (va_A (wX8 cy a o S) s.heap.size) (wX8 cy a o S1) → va_S (va_A (wX8 cy a o S) s.heap.size) s.heap H locs → lv_has ls 4 [] → W p l e (headSpec wsX8_readDigit ({ frames := 1, cells := 0, slots := 0, locals := 22 } : Room)).room s m ([.ref (a o), .int p1, .int p2, .int p3] : List Value).toArray below meth c H locs 0 0 (MQ below (va_Qv (fun (u : SX8) => u = rs) (fun u t => mB D s.heap.size (wX8 cy a o S) (wX8 cy a o u) t) (va_A (wX8 cy a o S) s.heap.size)) ([.ref (a o), .int p1, .int p2, .int p3] : List Value).toArray s 0 0 (va_A (wX8 cy a o S) s.heap.size)) (F0 m 88 ls []) := by
    intro S1 H locs ls h hP hD hS hl
    rw [hj2] at h
    exact W.vret hx hb hr (fun t ht hW => ⟨⟨S1, rfl, some_in h, by rw [ht]; exact hP, hD⟩, hS.F ht⟩) hS.2.2 dX8_readDigit_88
  obtain ⟨j3, hj3, h⟩ := jn_elim h
  have Jj3 : ∀ (ls : Array Slot), j3 () = some rs → lv_has ls 4 [(0, .ref (a o)), (2, .int p2), (3, .int p3)] → W p l e (headSpec wsX8_readDigit ({ frames := 1, cells := 0, slots := 0, locals := 22 } : Room)).room s m ([.ref (a o), .int p1, .int p2, .int p3] : List Value).toArray below meth c s.heap [] 0 0 (MQ below (va_Qv (fun (u : SX8) => u = rs) (fun u t => mB D s.heap.size (wX8 cy a o S) (wX8 cy a o u) t) (va_A (wX8 cy a o S) s.heap.size)) ([.ref (a o), .int p1, .int p2, .int p3] : List Value).toArray s 0 0 (va_A (wX8 cy a o S) s.heap.size)) (F0 m 45 ls []) := by
    intro ls h hl
    rw [hj3] at h
    refine lv_iload_n hx hb dX8_readDigit_45 rfl (lv_at hl 2 rfl) ?_
    refine lv_if_ne (tgt := 88) hx hb dX8_readDigit_46 (by decide) (fun cc => ?_) (fun cc => ?_)
    · have h := ite_n cc h
      exact Jj2 S s.heap [] ls h hP hD hS (lv_sub hl [] rfl)
    · have h := ite_p cc h
      refine lv_aload_n hx hb dX8_readDigit_49 rfl (lv_at hl 0 rfl) ?_
      refine va_get (D := D) (ci := 8) (v := .int (gX8_found S)) (C := RX8) (T := TX8) (N := 5) hx hb hts hinX8 hown hK hP 0 rfl rfl 2 (by decide) hf29 (fun _ h9 => h9) rfl dX8_readDigit_50 ?_
      refine lv_iconst (v := (1 : Int32)) hx hb dX8_readDigit_53 (by decide) ?_
      refine lv_iconst (v := (4 : Int32)) hx hb dX8_readDigit_54 (by decide) ?_
      obtain ⟨x4, e5, h⟩ := bd_some h
      refine pcSN (As := [.int (gX8_found S), .int (1 : Int32), .int (4 : Int32)]) (rest := []) (qX11_isBetween l D cy  (gX8_found S) (1 : Int32) (4 : Int32) x4 e5) ⟨hx, hb, hml, hown, hts⟩ ⟨va_cnB (y := yX11_isBetween) 3 hts gX8_readDigit_X11_isBetween_n36 rfl rfl rfl (hG.2.2.1 (.methodLinkNest "PianoRounds$Text" 36 ⟨"PianoRounds", "isBetween", "(III)Z"⟩ "PianoRounds") (by decide +kernel)) (hts (.initialized RX11) (by decide +kernel)) (by decide +kernel) ⟨Nat.le_of_ble_eq_true rfl, Nat.le_of_ble_eq_true rfl⟩, hts (.static yX11_isBetween) (by decide +kernel), trivial⟩ hG (hP.sub [] rfl) rfl hl.1 rfl (Nat.le_of_ble_eq_true rfl) dX8_readDigit_55 ⟨Nat.zero_le _, Nat.zero_le _⟩ ?_
      refine lv_if_eq (tgt := 88) hx hb dX8_readDigit_58 (by decide) (fun cc => ?_) (fun cc => ?_)
      · have h := ite_p cc h
        exact Jj2 S s.heap [] ls h hP hD hS (lv_sub hl [] rfl)
      · have h := ite_n cc h
        refine lv_aload_n hx hb dX8_readDigit_61 rfl (lv_at hl 0 rfl) ?_
        refine va_get (D := D) (ci := 8) (v := .ref (a (o + 2))) (C := RX8) (T := TX8) (N := 5) hx hb hts hinX8 hown hK hP 0 rfl rfl 3 (by decide) hf15 (fun _ h9 => h9) rfl dX8_readDigit_62 ?_
        refine lv_aload_n hx hb dX8_readDigit_65 rfl (lv_at hl 0 rfl) ?_
        refine va_get (D := D) (ci := 8) (v := .int (gX8_found S)) (C := RX8) (T := TX8) (N := 5) hx hb hts hinX8 hown hK hP 0 rfl rfl 2 (by decide) hf29 (fun _ h9 => h9) rfl dX8_readDigit_66 ?_
        refine lv_iconst (v := (1 : Int32)) hx hb dX8_readDigit_69 (by decide) ?_
        refine lv_isub hx hb dX8_readDigit_70 ?_
        refine lv_aload_n hx hb dX8_readDigit_71 rfl (lv_at hl 0 rfl) ?_
        refine va_get (D := D) (ci := 8) (v := .ref (a (o + 2))) (C := RX8) (T := TX8) (N := 5) hx hb hts hinX8 hown hK hP 0 rfl rfl 3 (by decide) hf15 (fun _ h9 => h9) rfl dX8_readDigit_72 ?_
        refine lv_aload_n hx hb dX8_readDigit_75 rfl (lv_at hl 0 rfl) ?_
        refine va_get (D := D) (ci := 8) (v := .int (gX8_found S)) (C := RX8) (T := TX8) (N := 5) hx hb hts hinX8 hown hK hP 0 rfl rfl 2 (by decide) hf29 (fun _ h9 => h9) rfl dX8_readDigit_76 ?_
        refine lv_iconst (v := (1 : Int32)) hx hb dX8_readDigit_79 (by decide) ?_
        refine lv_isub hx hb dX8_readDigit_80 ?_
        obtain ⟨g6, h⟩ := gd_some h
        refine r_ald (f := (gX8_numbers S)) (n := 4) (v := ((gX8_numbers S) ((((gX8_found S) - (1 : Int32))).toNatClampNeg))) hx hb hK hP 2 0 rfl rfl (gIn_in g6) rfl dX8_readDigit_81 ?_
        refine lv_bipush (v := (10 : Int32)) hx hb dX8_readDigit_82 (by decide) ?_
        refine lv_imul hx hb dX8_readDigit_84 ?_
        refine lv_iload_n hx hb dX8_readDigit_85 rfl (lv_at hl 1 rfl) ?_
        refine lv_iadd hx hb dX8_readDigit_86 ?_
        obtain ⟨g7, h⟩ := gd_some h
        refine r_ast (f := (gX8_numbers S)) (f' := (upd (gX8_numbers S) ((((gX8_found S) - (1 : Int32))).toNatClampNeg) ((((gX8_numbers S) ((((gX8_found S) - (1 : Int32))).toNatClampNeg)) * (10 : Int32)) + p2))) (n := 4) (ws' := (wX8 cy a o (uX8_numbers S (upd (gX8_numbers S) ((((gX8_found S) - (1 : Int32))).toNatClampNeg) ((((gX8_numbers S) ((((gX8_found S) - (1 : Int32))).toNatClampNeg)) * (10 : Int32)) + p2))))) hx hb hK hP hD hS 2 0 rfl rfl (gIn_in g7) rfl rfl dX8_readDigit_87 (fun H locs hP hD hS => ?_)
        obtain ⟨S8, eS9, h⟩ := lt_elim h
        have hP : va_P D vwCl (wX8 cy a o S8) H := by rw [eS9]; exact hP
        have hD : va_D (va_A (wX8 cy a o S) s.heap.size) (wX8 cy a o S8) := by rw [eS9]; exact hD
        exact Jj2 S8 H locs ls h hP hD hS (lv_sub hl [] rfl)
  refine lv_if_eq (tgt := 45) hx hb dX8_readDigit_1 (by decide) (fun cc => ?_) (fun cc => ?_)
  · have h := ite_p cc h
    exact Jj3  ls h (lv_sub hl [0, 2, 3] rfl)
  · have h := ite_n cc h
    refine lv_aload_n hx hb dX8_readDigit_4 rfl (lv_at hl 0 rfl) ?_
    refine va_get (D := D) (ci := 8) (v := .int (gX8_found S)) (C := RX8) (T := TX8) (N := 5) hx hb hts hinX8 hown hK hP 0 rfl rfl 2 (by decide) hf29 (fun _ h9 => h9) rfl dX8_readDigit_5 ?_
    refine lv_iconst (v := (4 : Int32)) hx hb dX8_readDigit_8 (by decide) ?_
    refine lv_icmp_ge (tgt := 45) hx hb dX8_readDigit_9 (by decide) (fun cc => ?_) (fun cc => ?_)
    · have h := ite_p cc h
      exact Jj3  ls h (lv_sub hl [0, 2, 3] rfl)
    · have h := ite_n cc h
      refine lv_aload_n hx hb dX8_readDigit_12 rfl (lv_at hl 0 rfl) ?_
      refine va_get (D := D) (ci := 8) (v := .ref (a (o + 3))) (C := RX8) (T := TX8) (N := 5) hx hb hts hinX8 hown hK hP 0 rfl rfl 4 (by decide) hf18 (fun _ h9 => h9) rfl dX8_readDigit_13 ?_
      refine lv_aload_n hx hb dX8_readDigit_16 rfl (lv_at hl 0 rfl) ?_
      refine va_get (D := D) (ci := 8) (v := .int (gX8_found S)) (C := RX8) (T := TX8) (N := 5) hx hb hts hinX8 hown hK hP 0 rfl rfl 2 (by decide) hf29 (fun _ h9 => h9) rfl dX8_readDigit_17 ?_
      refine lv_iload_n hx hb dX8_readDigit_20 rfl (lv_at hl 1 rfl) ?_
      obtain ⟨g10, h⟩ := gd_some h
      refine r_ast (f := (gX8_starts S)) (f' := (upd (gX8_starts S) (((gX8_found S)).toNatClampNeg) p1)) (n := 4) (ws' := (wX8 cy a o (uX8_starts S (upd (gX8_starts S) (((gX8_found S)).toNatClampNeg) p1)))) hx hb hK hP hD hS 3 0 rfl rfl (gIn_in g10) rfl rfl dX8_readDigit_21 (fun H locs hP hD hS => ?_)
      obtain ⟨S11, eS12, h⟩ := lt_elim h
      have hP : va_P D vwCl (wX8 cy a o S11) H := by rw [eS12]; exact hP
      have hD : va_D (va_A (wX8 cy a o S) s.heap.size) (wX8 cy a o S11) := by rw [eS12]; exact hD
      refine lv_aload_n hx hb dX8_readDigit_22 rfl (lv_at hl 0 rfl) ?_
      refine va_get (D := D) (ci := 8) (v := .ref (a (o + 2))) (C := RX8) (T := TX8) (N := 5) hx hb hts hinX8 hown hK hP 0 rfl rfl 3 (by decide) hf15 (fun _ h9 => h9) rfl dX8_readDigit_23 ?_
      refine lv_aload_n hx hb dX8_readDigit_26 rfl (lv_at hl 0 rfl) ?_
      refine va_get (D := D) (ci := 8) (v := .int (gX8_found S11)) (C := RX8) (T := TX8) (N := 5) hx hb hts hinX8 hown hK hP 0 rfl rfl 2 (by decide) hf29 (fun _ h9 => h9) rfl dX8_readDigit_27 ?_
      refine lv_iload_n hx hb dX8_readDigit_30 rfl (lv_at hl 2 rfl) ?_
      obtain ⟨g13, h⟩ := gd_some h
      refine r_ast (f := (gX8_numbers S11)) (f' := (upd (gX8_numbers S11) (((gX8_found S11)).toNatClampNeg) p2)) (n := 4) (ws' := (wX8 cy a o (uX8_numbers S11 (upd (gX8_numbers S11) (((gX8_found S11)).toNatClampNeg) p2)))) hx hb hK hP hD hS 2 0 rfl rfl (gIn_in g13) rfl rfl dX8_readDigit_31 (fun H locs hP hD hS => ?_)
      obtain ⟨S14, eS15, h⟩ := lt_elim h
      have hP : va_P D vwCl (wX8 cy a o S14) H := by rw [eS15]; exact hP
      have hD : va_D (va_A (wX8 cy a o S) s.heap.size) (wX8 cy a o S14) := by rw [eS15]; exact hD
      refine lv_aload_n hx hb dX8_readDigit_32 rfl (lv_at hl 0 rfl) ?_
      refine lv_dup hx hb dX8_readDigit_33 rfl ?_
      refine va_get (D := D) (ci := 8) (v := .int (gX8_found S14)) (C := RX8) (T := TX8) (N := 5) hx hb hts hinX8 hown hK hP 0 rfl rfl 2 (by decide) hf29 (fun _ h9 => h9) rfl dX8_readDigit_34 ?_
      refine lv_iconst (v := (1 : Int32)) hx hb dX8_readDigit_37 (by decide) ?_
      refine lv_iadd hx hb dX8_readDigit_38 ?_
      refine va_put (D := D) (ci := 8) (v := .int ((gX8_found S14) + (1 : Int32))) (ty := .int) (C := RX8) (T := TX8) (N := 5) hx hb hts hinX8 tyX8 tyX8_ok nmX8 hown hK hP hD hS 0 rfl rfl 2 (by decide) hf29 (fun _ h9 => h9) rfl (by decide +kernel) rfl rfl (Nat.le_of_ble_eq_true rfl) dX8_readDigit_39 (fun H locs hP hD hS => ?_)
      have hP : va_P D vwCl (wX8 cy a o (uX8_found S14 ((gX8_found S14) + (1 : Int32)))) H := hP
      have hD : va_D (va_A (wX8 cy a o S) s.heap.size) (wX8 cy a o (uX8_found S14 ((gX8_found S14) + (1 : Int32)))) := hD
      obtain ⟨S16, eS17, h⟩ := lt_elim h
      have hP : va_P D vwCl (wX8 cy a o S16) H := by rw [eS17]; exact hP
      have hD : va_D (va_A (wX8 cy a o S) s.heap.size) (wX8 cy a o S16) := by rw [eS17]; exact hD
      refine lv_goto (tgt := 88) hx hb dX8_readDigit_42 (by decide) ?_
      exact Jj2 S16 H locs ls h hP hD hS (lv_sub hl [] rfl)
set_option maxHeartbeats 4000000 in
set_option maxRecDepth 100000 in
theorem qX8_readNumbers (l : Launch) (D : va_G) (cy : Nat → ClassId) (a : Nat → Nat) (o : Nat) (S : SX8)  (sz : Nat) (rs : Int32 × SX8) (h : DX8_readNumbers S = some rs) : Met l yX8_readNumbers wsX8_readNumbers ({ frames := 2, cells := 0, slots := 0, locals := 45 } : Room) (mP D cy sz [.ref (a o)] (wX8 cy a o S)) (va_Qi (fun r (u : SX8) => (r, u) = rs) (fun u t => mB D sz (wX8 cy a o S) (wX8 cy a o u) t) (va_A (wX8 cy a o S) sz)) 0 0 (va_A (wX8 cy a o S) sz) := by
  refine Met.ofW (cc := cX8_readNumbers) (maxL := 4) (ret := (some .int)) (by decide) rfl ?_
  intro p e s m args below meth c s₁ B hml hv
  obtain ⟨rfl, hsz, hP, hG, hD0⟩ := hv
  have hx := B.exec
  have hb := B.bytes
  have hr := B.returns
  have hts := atoms_spec (ws := wsX8_readNumbers) B.pre
  have hown : s.vm.findClass RX8 = some m.cls := findClass_of_methodNamed B.named
  have hlocks := B.notSynchronized
  have hK := hG.1
  subst hsz
  have hD := hD0.self (sz := s.heap.size)
  have hA : ∀ q : Nat, s.heap.size ≤ q → (va_A (wX8 cy a o S) s.heap.size) q := fun q h => Or.inr h
  have hS : va_S (va_A (wX8 cy a o S) s.heap.size) s.heap s.heap [] := va_S.rf
  have hinX8 := (by decide +kernel : ∀ w ∈ wsX80, w ∈ wsX8_readNumbers)
  have hf29 := hts (.fieldLink RX8 29 "PianoRounds$Text" "found" "I") (by decide +kernel)
  have hf21 := hts (.fieldLink RX8 21 "PianoRounds$Text" "length" "I") (by decide +kernel)
  have hf9 := hts (.fieldLink RX8 9 "PianoRounds$Text" "codes" "[I") (by decide +kernel)
  have hl := lv_entry ([.ref (a o)]) (n := 4) (Nat.le_of_ble_eq_true rfl)
  rw [lg_entry_eq]
  generalize (lg_sl ([.ref (a o)]) ++ List.replicate (4 - (lg_sl ([.ref (a o)])).length) Slot.unset).toArray = ls at hl ⊢
  have hl : lv_has ls 4 [(0, .ref (a o))] := hl
  rw [DX8_readNumbers] at h
  refine lv_aload_n hx hb dX8_readNumbers_0 rfl (lv_at hl 0 rfl) ?_
  refine lv_iconst (v := (0 : Int32)) hx hb dX8_readNumbers_1 (by decide) ?_
  refine va_put (D := D) (ci := 8) (v := .int (0 : Int32)) (ty := .int) (C := RX8) (T := TX8) (N := 5) hx hb hts hinX8 tyX8 tyX8_ok nmX8 hown hK hP hD hS 0 rfl rfl 2 (by decide) hf29 (fun _ h9 => h9) rfl (by decide +kernel) rfl rfl (Nat.le_of_ble_eq_true rfl) dX8_readNumbers_2 (fun H locs hP hD hS => ?_)
  have hP : va_P D vwCl (wX8 cy a o (uX8_found S (0 : Int32))) H := hP
  have hD : va_D (va_A (wX8 cy a o S) s.heap.size) (wX8 cy a o (uX8_found S (0 : Int32))) := hD
  obtain ⟨S1, eS2, h⟩ := lt_elim h
  have hP : va_P D vwCl (wX8 cy a o S1) H := by rw [eS2]; exact hP
  have hD : va_D (va_A (wX8 cy a o S) s.heap.size) (wX8 cy a o S1) := by rw [eS2]; exact hD
  refine lv_iconst (v := (0 : Int32)) hx hb dX8_readNumbers_5 (by decide) ?_
  refine lv_istore_n (lv' := [(1, .int (0 : Int32)), (0, .ref (a o))]) hx hb dX8_readNumbers_6 rfl hl (by decide) rfl (fun ls hl => ?_)
  refine lv_iconst (v := (0 : Int32)) hx hb dX8_readNumbers_7 (by decide) ?_
  refine lv_istore_n (lv' := [(2, .int (0 : Int32)), (1, .int (0 : Int32)), (0, .ref (a o))]) hx hb dX8_readNumbers_8 rfl hl (by decide) rfl (fun ls hl => ?_)
  obtain ⟨j5, hj5, h⟩ := jn_elim h
  have Jj5 : ∀ (v2_3 : Int32) (S4 : SX8) (H : Heap) (locs : List Loc) (ls : Array Slot), j5 v2_3 S4 = some rs → va_P D vwCl (wX8 cy a o S4) H → va_D (va_A (wX8 cy a o S) s.heap.size) (wX8 cy a o S4) → va_S (va_A (wX8 cy a o S) s.heap.size) s.heap H locs → lv_has ls 4 [(2, .int v2_3)] → W p l e (headSpec wsX8_readNumbers ({ frames := 2, cells := 0, slots := 0, locals := 45 } : Room)).room s m ([.ref (a o)] : List Value).toArray below meth c H locs 0 0 (MQ below (va_Qi (fun r (u : SX8) => (r, u) = rs) (fun u t => mB D s.heap.size (wX8 cy a o S) (wX8 cy a o u) t) (va_A (wX8 cy a o S) s.heap.size)) ([.ref (a o)] : List Value).toArray s 0 0 (va_A (wX8 cy a o S) s.heap.size)) (F0 m 88 ls []) := by
    intro v2_3 S4 H locs ls h hP hD hS hl
    rw [hj5] at h
    refine lv_iload_n hx hb dX8_readNumbers_88 rfl (lv_at hl 0 rfl) ?_
    exact W.iret (v := v2_3) hx hb hr (fun t ht hW => ⟨⟨v2_3, S4, rfl, some_in h, by rw [ht]; exact hP, hD⟩, hS.F ht⟩) hS.2.2 dX8_readNumbers_89
  have L30 : ∀ (k7 : Int32 → SX8 → Option (Int32 × SX8)) (hk7 : ∀ (v2_8 : Int32) (S9 : SX8) (H : Heap) (locs : List Loc) (ls : Array Slot), k7 v2_8 S9 = some rs → va_P D vwCl (wX8 cy a o S9) H → va_D (va_A (wX8 cy a o S) s.heap.size) (wX8 cy a o S9) → va_S (va_A (wX8 cy a o S) s.heap.size) s.heap H locs → lv_has ls 4 [(2, .int v2_8)] → W p l e (headSpec wsX8_readNumbers ({ frames := 2, cells := 0, slots := 0, locals := 45 } : Room)).room s m ([.ref (a o)] : List Value).toArray below meth c H locs 0 0 (MQ below (va_Qi (fun r (u : SX8) => (r, u) = rs) (fun u t => mB D s.heap.size (wX8 cy a o S) (wX8 cy a o u) t) (va_A (wX8 cy a o S) s.heap.size)) ([.ref (a o)] : List Value).toArray s 0 0 (va_A (wX8 cy a o S) s.heap.size)) (F0 m 88 ls [])) (k10 : Int32 → SX8 → Option (Int32 × SX8)) (hk10 : ∀ (v1_11 : Int32) (S12 : SX8) (H : Heap) (locs : List Loc) (ls : Array Slot), k10 v1_11 S12 = some rs → va_P D vwCl (wX8 cy a o S12) H → va_D (va_A (wX8 cy a o S) s.heap.size) (wX8 cy a o S12) → va_S (va_A (wX8 cy a o S) s.heap.size) s.heap H locs → lv_has ls 4 [(0, .ref (a o)), (1, .int v1_11)] → W p l e (headSpec wsX8_readNumbers ({ frames := 2, cells := 0, slots := 0, locals := 45 } : Room)).room s m ([.ref (a o)] : List Value).toArray below meth c H locs 0 0 (MQ below (va_Qi (fun r (u : SX8) => (r, u) = rs) (fun u t => mB D s.heap.size (wX8 cy a o S) (wX8 cy a o u) t) (va_A (wX8 cy a o S) s.heap.size)) ([.ref (a o)] : List Value).toArray s 0 0 (va_A (wX8 cy a o S) s.heap.size)) (F0 m 96 ls [])) (f : Nat) (v1_17 : Int32) (v2_18 : Int32) (S6 : SX8) (H : Heap) (locs : List Loc) (ls : Array Slot), DX8_readNumbers_L9 k7 k10 f v1_17 v2_18 S6 = some rs → va_P D vwCl (wX8 cy a o S6) H → va_D (va_A (wX8 cy a o S) s.heap.size) (wX8 cy a o S6) → va_S (va_A (wX8 cy a o S) s.heap.size) s.heap H locs → lv_has ls 4 [(0, .ref (a o)), (1, .int v1_17), (2, .int v2_18)] → W p l e (headSpec wsX8_readNumbers ({ frames := 2, cells := 0, slots := 0, locals := 45 } : Room)).room s m ([.ref (a o)] : List Value).toArray below meth c H locs 0 0 (MQ below (va_Qi (fun r (u : SX8) => (r, u) = rs) (fun u t => mB D s.heap.size (wX8 cy a o S) (wX8 cy a o u) t) (va_A (wX8 cy a o S) s.heap.size)) ([.ref (a o)] : List Value).toArray s 0 0 (va_A (wX8 cy a o S) s.heap.size)) (F0 m 9 ls []) := by
    intro k7 hk7 k10 hk10 f
    induction f with
    | zero =>
      intro v1_17 v2_18 S6 H locs ls h hP hD hS hl
      rw [DX8_readNumbers_L9] at h
      cases h
    | succ f ih =>
      intro v1_17 v2_18 S6 H locs ls h hP hD hS hl
      rw [DX8_readNumbers_L9] at h
      refine lv_iload_n hx hb dX8_readNumbers_9 rfl (lv_at hl 2 rfl) ?_
      refine lv_aload_n hx hb dX8_readNumbers_10 rfl (lv_at hl 0 rfl) ?_
      refine va_get (D := D) (ci := 8) (v := .int (gX8_length S6)) (C := RX8) (T := TX8) (N := 5) hx hb hts hinX8 hown hK hP 0 rfl rfl 0 (by decide) hf21 (fun _ h9 => h9) rfl dX8_readNumbers_11 ?_
      refine lv_icmp_ge (tgt := 96) hx hb dX8_readNumbers_14 (by decide) (fun cc => ?_) (fun cc => ?_)
      · have h := ite_p cc h
        exact hk10 v1_17 S6 H locs ls h hP hD hS (lv_sub hl [0, 1] rfl)
      · have h := ite_n cc h
        refine lv_aload_n hx hb dX8_readNumbers_17 rfl (lv_at hl 0 rfl) ?_
        refine va_get (D := D) (ci := 8) (v := .ref (a (o + 1))) (C := RX8) (T := TX8) (N := 5) hx hb hts hinX8 hown hK hP 0 rfl rfl 1 (by decide) hf9 (fun _ h9 => h9) rfl dX8_readNumbers_18 ?_
        refine lv_iload_n hx hb dX8_readNumbers_21 rfl (lv_at hl 2 rfl) ?_
        obtain ⟨g19, h⟩ := gd_some h
        refine r_ald (f := (gX8_codes S6)) (n := 40) (v := ((gX8_codes S6) ((v2_18).toNatClampNeg))) hx hb hK hP 1 0 rfl rfl (gIn_in g19) rfl dX8_readNumbers_22 ?_
        refine lv_istore_n (lv' := [(3, .int ((gX8_codes S6) ((v2_18).toNatClampNeg))), (0, .ref (a o)), (1, .int v1_17), (2, .int v2_18)]) hx hb dX8_readNumbers_23 rfl hl (by decide) rfl (fun ls hl => ?_)
        refine lv_iload_n hx hb dX8_readNumbers_24 rfl (lv_at hl 0 rfl) ?_
        refine lv_bipush (v := (48 : Int32)) hx hb dX8_readNumbers_25 (by decide) ?_
        refine lv_bipush (v := (57 : Int32)) hx hb dX8_readNumbers_27 (by decide) ?_
        obtain ⟨x20, e21, h⟩ := bd_some h
        refine pcSN (As := [.int ((gX8_codes S6) ((v2_18).toNatClampNeg)), .int (48 : Int32), .int (57 : Int32)]) (rest := []) (qX11_isBetween l D cy  ((gX8_codes S6) ((v2_18).toNatClampNeg)) (48 : Int32) (57 : Int32) x20 e21) ⟨hx, hb, hml, hown, hts⟩ ⟨va_cnB (y := yX11_isBetween) 3 hts gX8_readNumbers_X11_isBetween_n36 rfl rfl rfl (hG.2.2.1 (.methodLinkNest "PianoRounds$Text" 36 ⟨"PianoRounds", "isBetween", "(III)Z"⟩ "PianoRounds") (by decide +kernel)) (hts (.initialized RX11) (by decide +kernel)) (by decide +kernel) ⟨Nat.le_of_ble_eq_true rfl, Nat.le_of_ble_eq_true rfl⟩, hts (.static yX11_isBetween) (by decide +kernel), trivial⟩ hG (hP.sub [] rfl) rfl hl.1 rfl (Nat.le_of_ble_eq_true rfl) dX8_readNumbers_29 ⟨Nat.zero_le _, Nat.zero_le _⟩ ?_
        obtain ⟨j24, hj24, h⟩ := jn_elim h
        have Jj24 : ∀ (v1_22 : Int32) (S23 : SX8) (H : Heap) (locs : List Loc) (ls : Array Slot), j24 v1_22 S23 = some rs → va_P D vwCl (wX8 cy a o S23) H → va_D (va_A (wX8 cy a o S) s.heap.size) (wX8 cy a o S23) → va_S (va_A (wX8 cy a o S) s.heap.size) s.heap H locs → lv_has ls 4 [(0, .ref (a o)), (1, .int v1_22), (2, .int v2_18)] → W p l e (headSpec wsX8_readNumbers ({ frames := 2, cells := 0, slots := 0, locals := 45 } : Room)).room s m ([.ref (a o)] : List Value).toArray below meth c H locs 0 0 (MQ below (va_Qi (fun r (u : SX8) => (r, u) = rs) (fun u t => mB D s.heap.size (wX8 cy a o S) (wX8 cy a o u) t) (va_A (wX8 cy a o S) s.heap.size)) ([.ref (a o)] : List Value).toArray s 0 0 (va_A (wX8 cy a o S) s.heap.size)) (F0 m 90 ls []) := by
          intro v1_22 S23 H locs ls h hP hD hS hl
          rw [hj24] at h
          refine lv_iinc (v := (v2_18 + (1 : Int32))) (lv' := [(2, .int (v2_18 + (1 : Int32))), (0, .ref (a o)), (1, .int v1_22)]) hx hb dX8_readNumbers_90 hl (k := 2) rfl (by rfl) (by decide) rfl (fun ls hl => ?_)
          refine lv_goto (tgt := 9) hx hb dX8_readNumbers_93 (by decide) ?_
          exact ih v1_22 (v2_18 + (1 : Int32)) S23 H locs ls h hP hD hS (lv_sub hl [1, 2, 0] rfl)
        obtain ⟨j25, hj25, h⟩ := jn_elim h
        have Jj25 : ∀ (ls : Array Slot), j25 () = some rs → lv_has ls 4 [(0, .ref (a o)), (1, .int v1_17), (2, .int v2_18), (3, .int ((gX8_codes S6) ((v2_18).toNatClampNeg)))] → W p l e (headSpec wsX8_readNumbers ({ frames := 2, cells := 0, slots := 0, locals := 45 } : Room)).room s m ([.ref (a o)] : List Value).toArray below meth c H locs 0 0 (MQ below (va_Qi (fun r (u : SX8) => (r, u) = rs) (fun u t => mB D s.heap.size (wX8 cy a o S) (wX8 cy a o u) t) (va_A (wX8 cy a o S) s.heap.size)) ([.ref (a o)] : List Value).toArray s 0 0 (va_A (wX8 cy a o S) s.heap.size)) (F0 m 65 ls []) := by
          intro ls h hl
          rw [hj25] at h
          refine lv_iload_n hx hb dX8_readNumbers_65 rfl (lv_at hl 3 rfl) ?_
          refine lv_bipush (v := (44 : Int32)) hx hb dX8_readNumbers_66 (by decide) ?_
          refine lv_icmp_ne (tgt := 88) hx hb dX8_readNumbers_68 (by decide) (fun cc => ?_) (fun cc => ?_)
          · have h := ite_n cc h
            exact hk7 v2_18 S6 H locs ls h hP hD hS (lv_sub hl [2] rfl)
          · have h := ite_p cc h
            refine lv_iload_n hx hb dX8_readNumbers_71 rfl (lv_at hl 1 rfl) ?_
            refine lv_if_le (tgt := 88) hx hb dX8_readNumbers_72 (by decide) (fun cc => ?_) (fun cc => ?_)
            · have h := ite_p cc h
              exact hk7 v2_18 S6 H locs ls h hP hD hS (lv_sub hl [2] rfl)
            · have h := ite_n cc h
              refine lv_aload_n hx hb dX8_readNumbers_75 rfl (lv_at hl 0 rfl) ?_
              refine va_get (D := D) (ci := 8) (v := .int (gX8_found S6)) (C := RX8) (T := TX8) (N := 5) hx hb hts hinX8 hown hK hP 0 rfl rfl 2 (by decide) hf29 (fun _ h9 => h9) rfl dX8_readNumbers_76 ?_
              refine lv_iconst (v := (4 : Int32)) hx hb dX8_readNumbers_79 (by decide) ?_
              refine lv_icmp_ge (tgt := 88) hx hb dX8_readNumbers_80 (by decide) (fun cc => ?_) (fun cc => ?_)
              · have h := ite_p cc h
                exact hk7 v2_18 S6 H locs ls h hP hD hS (lv_sub hl [2] rfl)
              · have h := ite_n cc h
                refine lv_iconst (v := (0 : Int32)) hx hb dX8_readNumbers_83 (by decide) ?_
                refine lv_istore_n (lv' := [(1, .int (0 : Int32)), (0, .ref (a o)), (2, .int v2_18), (3, .int ((gX8_codes S6) ((v2_18).toNatClampNeg)))]) hx hb dX8_readNumbers_84 rfl hl (by decide) rfl (fun ls hl => ?_)
                refine lv_goto (tgt := 90) hx hb dX8_readNumbers_85 (by decide) ?_
                exact Jj24 (0 : Int32) S6 H locs ls h hP hD hS (lv_sub hl [1, 0, 2] rfl)
        refine lv_if_eq (tgt := 65) hx hb dX8_readNumbers_32 (by decide) (fun cc => ?_) (fun cc => ?_)
        · have h := ite_p cc h
          exact Jj25  ls h (lv_sub hl [1, 2, 3, 0] rfl)
        · have h := ite_n cc h
          refine lv_iload_n hx hb dX8_readNumbers_35 rfl (lv_at hl 2 rfl) ?_
          refine lv_iconst (v := (2 : Int32)) hx hb dX8_readNumbers_36 (by decide) ?_
          refine lv_icmp_ge (tgt := 65) hx hb dX8_readNumbers_37 (by decide) (fun cc => ?_) (fun cc => ?_)
          · have h := ite_p cc h
            exact Jj25  ls h (lv_sub hl [1, 2, 3, 0] rfl)
          · have h := ite_n cc h
            refine lv_iinc (v := (v1_17 + (1 : Int32))) (lv' := [(1, .int (v1_17 + (1 : Int32))), (3, .int ((gX8_codes S6) ((v2_18).toNatClampNeg))), (0, .ref (a o)), (2, .int v2_18)]) hx hb dX8_readNumbers_40 hl (k := 2) rfl (by rfl) (by decide) rfl (fun ls hl => ?_)
            refine lv_aload_n hx hb dX8_readNumbers_43 rfl (lv_at hl 2 rfl) ?_
            refine lv_iload_n hx hb dX8_readNumbers_44 rfl (lv_at hl 3 rfl) ?_
            refine lv_iload_n hx hb dX8_readNumbers_45 rfl (lv_at hl 1 rfl) ?_
            refine lv_bipush (v := (48 : Int32)) hx hb dX8_readNumbers_46 (by decide) ?_
            refine lv_isub hx hb dX8_readNumbers_48 ?_
            refine lv_iload_n hx hb dX8_readNumbers_49 rfl (lv_at hl 0 rfl) ?_
            refine lv_iconst (v := (1 : Int32)) hx hb dX8_readNumbers_50 (by decide) ?_
            obtain ⟨j27, hj27, h⟩ := jn_elim h
            have Jj27 : ∀ (x26 : Int32) (ls : Array Slot), j27 x26 = some rs → lv_has ls 4 [(0, .ref (a o)), (1, .int (v1_17 + (1 : Int32))), (2, .int v2_18)] → W p l e (headSpec wsX8_readNumbers ({ frames := 2, cells := 0, slots := 0, locals := 45 } : Room)).room s m ([.ref (a o)] : List Value).toArray below meth c H locs 0 0 (MQ below (va_Qi (fun r (u : SX8) => (r, u) = rs) (fun u t => mB D s.heap.size (wX8 cy a o S) (wX8 cy a o u) t) (va_A (wX8 cy a o S) s.heap.size)) ([.ref (a o)] : List Value).toArray s 0 0 (va_A (wX8 cy a o S) s.heap.size)) (F0 m 59 ls [.int x26, .int (((gX8_codes S6) ((v2_18).toNatClampNeg)) - (48 : Int32)), .int v2_18, .ref (a o)]) := by
              intro x26 ls h hl
              rw [hj27] at h
              obtain ⟨x28, e29, h⟩ := bd_some h
              refine smVv (As := [.int v2_18, .int (((gX8_codes S6) ((v2_18).toNatClampNeg)) - (48 : Int32)), .int x26]) (rest := []) (ws' := (wX8 cy a o x28)) (q0 := 0) (qX8_readDigit l D cy a o S6 v2_18 (((gX8_codes S6) ((v2_18).toNatClampNeg)) - (48 : Int32)) x26 (H).size x28 e29) ⟨hx, hb, hml, hown, hts⟩ (cwV 3 hts gX8_readNumbers_X8_readDigit rfl rfl rfl (by decide +kernel) ⟨Nat.le_of_ble_eq_true rfl, Nat.le_of_ble_eq_true rfl⟩) hG hP hD hS hA (pm1 (X := ([] : va_W)) (c := (wX8 cy a o S6)) (Y := ([] : va_W)) (show (wX8 cy a o S6) = ([] : va_W) ++ ((wX8 cy a o S6) ++ ([] : va_W)) from by simp only [List.append_assoc, List.nil_append, List.append_nil] <;> rfl)) (pm1 (X := ([] : va_W)) (c := (wX8 cy a o x28)) (Y := ([] : va_W)) (show (wX8 cy a o x28) = ([] : va_W) ++ ((wX8 cy a o x28) ++ ([] : va_W)) from by simp only [List.append_assoc, List.nil_append, List.append_nil] <;> rfl)) rfl rfl rfl hl.1 rfl (Nat.le_of_ble_eq_true rfl) dX8_readNumbers_59 ⟨Nat.zero_le _, Nat.zero_le _⟩ (fun H locs hP hD hS => ?_)
              refine lv_goto (tgt := 90) hx hb dX8_readNumbers_62 (by decide) ?_
              exact Jj24 (v1_17 + (1 : Int32)) x28 H locs ls h hP hD hS (lv_sub hl [0, 1, 2] rfl)
            refine lv_icmp_ne (tgt := 58) hx hb dX8_readNumbers_51 (by decide) (fun cc => ?_) (fun cc => ?_)
            · have h := ite_n cc h
              refine lv_iconst (v := (0 : Int32)) hx hb dX8_readNumbers_58 (by decide) ?_
              exact Jj27 (0 : Int32) ls h (lv_sub hl [2, 0, 3] rfl)
            · have h := ite_p cc h
              refine lv_iconst (v := (1 : Int32)) hx hb dX8_readNumbers_54 (by decide) ?_
              refine lv_goto (tgt := 59) hx hb dX8_readNumbers_55 (by decide) ?_
              exact Jj27 (1 : Int32) ls h (lv_sub hl [2, 0, 3] rfl)
  refine L30  _ Jj5 _ ?_ fu (0 : Int32) (0 : Int32) S1 H locs ls h hP hD hS (lv_sub hl [2, 1, 0] rfl)
  intro v1_13 S14 H locs ls h hP hD hS hl
  refine lv_iload_n hx hb dX8_readNumbers_96 rfl (lv_at hl 1 rfl) ?_
  obtain ⟨j16, hj16, h⟩ := jn_elim h
  have Jj16 : ∀ (x15 : Int32) (ls : Array Slot), j16 x15 = some rs → lv_has ls 4 [] → W p l e (headSpec wsX8_readNumbers ({ frames := 2, cells := 0, slots := 0, locals := 45 } : Room)).room s m ([.ref (a o)] : List Value).toArray below meth c H locs 0 0 (MQ below (va_Qi (fun r (u : SX8) => (r, u) = rs) (fun u t => mB D s.heap.size (wX8 cy a o S) (wX8 cy a o u) t) (va_A (wX8 cy a o S) s.heap.size)) ([.ref (a o)] : List Value).toArray s 0 0 (va_A (wX8 cy a o S) s.heap.size)) (F0 m 108 ls [.int x15]) := by
    intro x15 ls h hl
    rw [hj16] at h
    exact W.iret (v := x15) hx hb hr (fun t ht hW => ⟨⟨x15, S14, rfl, some_in h, by rw [ht]; exact hP, hD⟩, hS.F ht⟩) hS.2.2 dX8_readNumbers_108
  refine lv_if_ne (tgt := 107) hx hb dX8_readNumbers_97 (by decide) (fun cc => ?_) (fun cc => ?_)
  · have h := ite_n cc h
    refine lv_iconst (v := (-1 : Int32)) hx hb dX8_readNumbers_107 (by decide) ?_
    exact Jj16 (-1 : Int32) ls h (lv_sub hl [] rfl)
  · have h := ite_p cc h
    refine lv_aload_n hx hb dX8_readNumbers_100 rfl (lv_at hl 0 rfl) ?_
    refine va_get (D := D) (ci := 8) (v := .int (gX8_length S14)) (C := RX8) (T := TX8) (N := 5) hx hb hts hinX8 hown hK hP 0 rfl rfl 0 (by decide) hf21 (fun _ h9 => h9) rfl dX8_readNumbers_101 ?_
    refine lv_goto (tgt := 108) hx hb dX8_readNumbers_104 (by decide) ?_
    exact Jj16 (gX8_length S14) ls h (lv_sub hl [] rfl)
set_option maxHeartbeats 4000000 in
set_option maxRecDepth 100000 in
theorem qX8_isToldBefore (l : Launch) (D : va_G) (cy : Nat → ClassId) (a : Nat → Nat) (o : Nat) (S : SX8) (p1 : Int32) (rs : Int32) (h : DX8_isToldBefore S p1 = some rs) : Met l yX8_isToldBefore wsX8_isToldBefore ({ frames := 0, cells := 0, slots := 0, locals := 0 } : Room) (va_Pc [.ref (a o), .int p1] (fun U => va_P D vwCl (wX8 cy a o S) U.heap ∧ gK D cy U)) (vp_Si (fun z => z = rs)) 0 0 (fun _ => False) := by
  refine Met.ofW (cc := cX8_isToldBefore) (maxL := 3) (ret := (some .boolean)) (by decide) rfl ?_
  intro p e s m args below meth c s₁ B hml hv
  obtain ⟨rfl, hP, hG⟩ := hv
  have hx := B.exec
  have hb := B.bytes
  have hr := B.returns
  have hts := atoms_spec (ws := wsX8_isToldBefore) B.pre
  have hown : s.vm.findClass RX8 = some m.cls := findClass_of_methodNamed B.named
  have hlocks := B.notSynchronized
  have hK := hG.1
  have hinX8 := (by decide +kernel : ∀ w ∈ wsX80, w ∈ wsX8_isToldBefore)
  have hf15 := hts (.fieldLink RX8 15 "PianoRounds$Text" "numbers" "[I") (by decide +kernel)
  have hl := lv_entry ([.ref (a o), .int p1]) (n := 3) (Nat.le_of_ble_eq_true rfl)
  rw [lg_entry_eq]
  generalize (lg_sl ([.ref (a o), .int p1]) ++ List.replicate (3 - (lg_sl ([.ref (a o), .int p1])).length) Slot.unset).toArray = ls at hl ⊢
  have hl : lv_has ls 3 [(0, .ref (a o)), (1, .int p1)] := hl
  rw [DX8_isToldBefore] at h
  refine lv_iconst (v := (0 : Int32)) hx hb dX8_isToldBefore_0 (by decide) ?_
  refine lv_istore_n (lv' := [(2, .int (0 : Int32)), (0, .ref (a o)), (1, .int p1)]) hx hb dX8_isToldBefore_1 rfl hl (by decide) rfl (fun ls hl => ?_)
  have L7 : ∀ (c1_1 : Int32) (k2 : Unit → Option (Int32)) (hk2 : ∀ (ls : Array Slot), k2 () = some rs → lv_has ls 3 [] → W p l e (headSpec wsX8_isToldBefore ({ frames := 0, cells := 0, slots := 0, locals := 0 } : Room)).room s m ([.ref (a o), .int p1] : List Value).toArray below meth c s.heap [] 0 0 (MQ below (vp_Si (fun z => z = rs)) ([.ref (a o), .int p1] : List Value).toArray s 0 0 (fun _ => False)) (F0 m 22 ls [])) (k3 : Unit → Option (Int32)) (hk3 : ∀ (ls : Array Slot), k3 () = some rs → lv_has ls 3 [] → W p l e (headSpec wsX8_isToldBefore ({ frames := 0, cells := 0, slots := 0, locals := 0 } : Room)).room s m ([.ref (a o), .int p1] : List Value).toArray below meth c s.heap [] 0 0 (MQ below (vp_Si (fun z => z = rs)) ([.ref (a o), .int p1] : List Value).toArray s 0 0 (fun _ => False)) (F0 m 30 ls [])) (f : Nat) (v2_4 : Int32) (ls : Array Slot), DX8_isToldBefore_L2 S c1_1 k2 k3 f v2_4 = some rs → lv_has ls 3 [(0, .ref (a o)), (1, .int c1_1), (2, .int v2_4)] → W p l e (headSpec wsX8_isToldBefore ({ frames := 0, cells := 0, slots := 0, locals := 0 } : Room)).room s m ([.ref (a o), .int p1] : List Value).toArray below meth c s.heap [] 0 0 (MQ below (vp_Si (fun z => z = rs)) ([.ref (a o), .int p1] : List Value).toArray s 0 0 (fun _ => False)) (F0 m 2 ls []) := by
    intro c1_1 k2 hk2 k3 hk3 f
    induction f with
    | zero =>
      intro v2_4 ls h hl
      rw [DX8_isToldBefore_L2] at h
      cases h
    | succ f ih =>
      intro v2_4 ls h hl
      rw [DX8_isToldBefore_L2] at h
      refine lv_iload_n hx hb dX8_isToldBefore_2 rfl (lv_at hl 2 rfl) ?_
      refine lv_iload_n hx hb dX8_isToldBefore_3 rfl (lv_at hl 1 rfl) ?_
      refine lv_icmp_ge (tgt := 30) hx hb dX8_isToldBefore_4 (by decide) (fun cc => ?_) (fun cc => ?_)
      · have h := ite_p cc h
        exact hk3  ls h (lv_sub hl [] rfl)
      · have h := ite_n cc h
        refine lv_aload_n hx hb dX8_isToldBefore_7 rfl (lv_at hl 0 rfl) ?_
        refine va_get (D := D) (ci := 8) (v := .ref (a (o + 2))) (C := RX8) (T := TX8) (N := 5) hx hb hts hinX8 hown hK hP 0 rfl rfl 3 (by decide) hf15 (fun _ h9 => h9) rfl dX8_isToldBefore_8 ?_
        refine lv_iload_n hx hb dX8_isToldBefore_11 rfl (lv_at hl 2 rfl) ?_
        obtain ⟨g5, h⟩ := gd_some h
        refine r_ald (f := (gX8_numbers S)) (n := 4) (v := ((gX8_numbers S) ((v2_4).toNatClampNeg))) hx hb hK hP 2 0 rfl rfl (gIn_in g5) rfl dX8_isToldBefore_12 ?_
        refine lv_aload_n hx hb dX8_isToldBefore_13 rfl (lv_at hl 0 rfl) ?_
        refine va_get (D := D) (ci := 8) (v := .ref (a (o + 2))) (C := RX8) (T := TX8) (N := 5) hx hb hts hinX8 hown hK hP 0 rfl rfl 3 (by decide) hf15 (fun _ h9 => h9) rfl dX8_isToldBefore_14 ?_
        refine lv_iload_n hx hb dX8_isToldBefore_17 rfl (lv_at hl 1 rfl) ?_
        obtain ⟨g6, h⟩ := gd_some h
        refine r_ald (f := (gX8_numbers S)) (n := 4) (v := ((gX8_numbers S) ((c1_1).toNatClampNeg))) hx hb hK hP 2 0 rfl rfl (gIn_in g6) rfl dX8_isToldBefore_18 ?_
        refine lv_icmp_ne (tgt := 24) hx hb dX8_isToldBefore_19 (by decide) (fun cc => ?_) (fun cc => ?_)
        · have h := ite_n cc h
          refine lv_iinc (v := (v2_4 + (1 : Int32))) (lv' := [(2, .int (v2_4 + (1 : Int32))), (0, .ref (a o)), (1, .int c1_1)]) hx hb dX8_isToldBefore_24 hl (k := 2) rfl (by rfl) (by decide) rfl (fun ls hl => ?_)
          refine lv_goto (tgt := 2) hx hb dX8_isToldBefore_27 (by decide) ?_
          exact ih (v2_4 + (1 : Int32)) ls h (lv_sub hl [1, 2, 0] rfl)
        · have h := ite_p cc h
          exact hk2  ls h (lv_sub hl [] rfl)
  refine L7 p1 _ ?_ _ ?_ fu (0 : Int32) ls h (lv_sub hl [1, 2, 0] rfl)
  · intro ls h hl
    refine lv_iconst (v := (1 : Int32)) hx hb dX8_isToldBefore_22 (by decide) ?_
    exact W.zret (v := (1 : Int32)) hx hb hr rfl (fun t ht hW => ⟨(1 : Int32), rfl, some_in h, ht⟩) (fun q hq => nomatch hq) dX8_isToldBefore_23
  · intro ls h hl
    refine lv_iconst (v := (0 : Int32)) hx hb dX8_isToldBefore_30 (by decide) ?_
    exact W.zret (v := (0 : Int32)) hx hb hr rfl (fun t ht hW => ⟨(0 : Int32), rfl, some_in h, ht⟩) (fun q hq => nomatch hq) dX8_isToldBefore_31
set_option maxHeartbeats 4000000 in
set_option maxRecDepth 100000 in
theorem qX8_faultAmong (l : Launch) (D : va_G) (cy : Nat → ClassId) (a : Nat → Nat) (o : Nat) (S : SX8) (p1 : Int32) (sz : Nat) (rs : Int32 × SX8) (h : DX8_faultAmong S p1 = some rs) : Met l yX8_faultAmong wsX8_faultAmong ({ frames := 3, cells := 0, slots := 0, locals := 68 } : Room) (mP D cy sz [.ref (a o), .int p1] (wX8 cy a o S)) (va_Qi (fun r (u : SX8) => (r, u) = rs) (fun u t => mB D sz (wX8 cy a o S) (wX8 cy a o u) t) (va_A (wX8 cy a o S) sz)) 0 0 (va_A (wX8 cy a o S) sz) := by
  refine Met.ofW (cc := cX8_faultAmong) (maxL := 4) (ret := (some .int)) (by decide) rfl ?_
  intro p e s m args below meth c s₁ B hml hv
  obtain ⟨rfl, hsz, hP, hG, hD0⟩ := hv
  have hx := B.exec
  have hb := B.bytes
  have hr := B.returns
  have hts := atoms_spec (ws := wsX8_faultAmong) B.pre
  have hown : s.vm.findClass RX8 = some m.cls := findClass_of_methodNamed B.named
  have hlocks := B.notSynchronized
  have hK := hG.1
  subst hsz
  have hD := hD0.self (sz := s.heap.size)
  have hA : ∀ q : Nat, s.heap.size ≤ q → (va_A (wX8 cy a o S) s.heap.size) q := fun q h => Or.inr h
  have hS : va_S (va_A (wX8 cy a o S) s.heap.size) s.heap s.heap [] := va_S.rf
  have hinX8 := (by decide +kernel : ∀ w ∈ wsX80, w ∈ wsX8_faultAmong)
  have hf18 := hts (.fieldLink RX8 18 "PianoRounds$Text" "starts" "[I") (by decide +kernel)
  have hf29 := hts (.fieldLink RX8 29 "PianoRounds$Text" "found" "I") (by decide +kernel)
  have hf15 := hts (.fieldLink RX8 15 "PianoRounds$Text" "numbers" "[I") (by decide +kernel)
  have hl := lv_entry ([.ref (a o), .int p1]) (n := 4) (Nat.le_of_ble_eq_true rfl)
  rw [lg_entry_eq]
  generalize (lg_sl ([.ref (a o), .int p1]) ++ List.replicate (4 - (lg_sl ([.ref (a o), .int p1])).length) Slot.unset).toArray = ls at hl ⊢
  have hl : lv_has ls 4 [(0, .ref (a o)), (1, .int p1)] := hl
  rw [DX8_faultAmong] at h
  refine lv_aload_n hx hb dX8_faultAmong_0 rfl (lv_at hl 0 rfl) ?_
  obtain ⟨x1, e2, h⟩ := bd_some h
  refine smVi (As := []) (rest := []) (ws' := (wX8 cy a o x1.2)) (q0 := 0) (qX8_readNumbers l D cy a o S  (s.heap).size x1 e2) ⟨hx, hb, hml, hown, hts⟩ (cwV 0 hts gX8_faultAmong_X8_readNumbers rfl rfl rfl (by decide +kernel) ⟨Nat.le_of_ble_eq_true rfl, Nat.le_of_ble_eq_true rfl⟩) hG hP hD hS hA (pm1 (X := ([] : va_W)) (c := (wX8 cy a o S)) (Y := ([] : va_W)) (show (wX8 cy a o S) = ([] : va_W) ++ ((wX8 cy a o S) ++ ([] : va_W)) from by simp only [List.append_assoc, List.nil_append, List.append_nil] <;> rfl)) (pm1 (X := ([] : va_W)) (c := (wX8 cy a o x1.2)) (Y := ([] : va_W)) (show (wX8 cy a o x1.2) = ([] : va_W) ++ ((wX8 cy a o x1.2) ++ ([] : va_W)) from by simp only [List.append_assoc, List.nil_append, List.append_nil] <;> rfl)) rfl rfl rfl hl.1 rfl (Nat.le_of_ble_eq_true rfl) dX8_faultAmong_1 ⟨Nat.zero_le _, Nat.zero_le _⟩ (fun H locs hP hD hS => ?_)
  refine lv_istore_n (lv' := [(2, .int x1.1), (0, .ref (a o)), (1, .int p1)]) hx hb dX8_faultAmong_4 rfl hl (by decide) rfl (fun ls hl => ?_)
  refine lv_iload_n hx hb dX8_faultAmong_5 rfl (lv_at hl 0 rfl) ?_
  refine lv_iconst (v := (-1 : Int32)) hx hb dX8_faultAmong_6 (by decide) ?_
  refine lv_icmp_eq (tgt := 12) hx hb dX8_faultAmong_7 (by decide) (fun cc => ?_) (fun cc => ?_)
  · have h := ite_p cc h
    refine lv_iconst (v := (0 : Int32)) hx hb dX8_faultAmong_12 (by decide) ?_
    refine lv_istore_n (lv' := [(3, .int (0 : Int32)), (2, .int x1.1), (0, .ref (a o)), (1, .int p1)]) hx hb dX8_faultAmong_13 rfl hl (by decide) rfl (fun ls hl => ?_)
    obtain ⟨j5, hj5, h⟩ := jn_elim h
    have Jj5 : ∀ (v3_3 : Int32) (S4 : SX8) (H : Heap) (locs : List Loc) (ls : Array Slot), j5 v3_3 S4 = some rs → va_P D vwCl (wX8 cy a o S4) H → va_D (va_A (wX8 cy a o S) s.heap.size) (wX8 cy a o S4) → va_S (va_A (wX8 cy a o S) s.heap.size) s.heap H locs → lv_has ls 4 [(0, .ref (a o)), (3, .int v3_3)] → W p l e (headSpec wsX8_faultAmong ({ frames := 3, cells := 0, slots := 0, locals := 68 } : Room)).room s m ([.ref (a o), .int p1] : List Value).toArray below meth c H locs 0 0 (MQ below (va_Qi (fun r (u : SX8) => (r, u) = rs) (fun u t => mB D s.heap.size (wX8 cy a o S) (wX8 cy a o u) t) (va_A (wX8 cy a o S) s.heap.size)) ([.ref (a o), .int p1] : List Value).toArray s 0 0 (va_A (wX8 cy a o S) s.heap.size)) (F0 m 40 ls []) := by
      intro v3_3 S4 H locs ls h hP hD hS hl
      rw [hj5] at h
      refine lv_aload_n hx hb dX8_faultAmong_40 rfl (lv_at hl 0 rfl) ?_
      refine va_get (D := D) (ci := 8) (v := .ref (a (o + 3))) (C := RX8) (T := TX8) (N := 5) hx hb hts hinX8 hown hK hP 0 rfl rfl 4 (by decide) hf18 (fun _ h9 => h9) rfl dX8_faultAmong_41 ?_
      refine lv_iload_n hx hb dX8_faultAmong_44 rfl (lv_at hl 1 rfl) ?_
      obtain ⟨g6, h⟩ := gd_some h
      refine r_ald (f := (gX8_starts S4)) (n := 4) (v := ((gX8_starts S4) ((v3_3).toNatClampNeg))) hx hb hK hP 3 0 rfl rfl (gIn_in g6) rfl dX8_faultAmong_45 ?_
      exact W.iret (v := ((gX8_starts S4) ((v3_3).toNatClampNeg))) hx hb hr (fun t ht hW => ⟨⟨((gX8_starts S4) ((v3_3).toNatClampNeg)), S4, rfl, some_in h, by rw [ht]; exact hP, hD⟩, hS.F ht⟩) hS.2.2 dX8_faultAmong_46
    have L19 : ∀ (c1_7 : Int32) (k9 : Int32 → SX8 → Option (Int32 × SX8)) (hk9 : ∀ (v3_10 : Int32) (S11 : SX8) (H : Heap) (locs : List Loc) (ls : Array Slot), k9 v3_10 S11 = some rs → va_P D vwCl (wX8 cy a o S11) H → va_D (va_A (wX8 cy a o S) s.heap.size) (wX8 cy a o S11) → va_S (va_A (wX8 cy a o S) s.heap.size) s.heap H locs → lv_has ls 4 [(0, .ref (a o)), (3, .int v3_10)] → W p l e (headSpec wsX8_faultAmong ({ frames := 3, cells := 0, slots := 0, locals := 68 } : Room)).room s m ([.ref (a o), .int p1] : List Value).toArray below meth c H locs 0 0 (MQ below (va_Qi (fun r (u : SX8) => (r, u) = rs) (fun u t => mB D s.heap.size (wX8 cy a o S) (wX8 cy a o u) t) (va_A (wX8 cy a o S) s.heap.size)) ([.ref (a o), .int p1] : List Value).toArray s 0 0 (va_A (wX8 cy a o S) s.heap.size)) (F0 m 40 ls [])) (k12 : SX8 → Option (Int32 × SX8)) (hk12 : ∀ (S13 : SX8) (H : Heap) (locs : List Loc) (ls : Array Slot), k12 S13 = some rs → va_P D vwCl (wX8 cy a o S13) H → va_D (va_A (wX8 cy a o S) s.heap.size) (wX8 cy a o S13) → va_S (va_A (wX8 cy a o S) s.heap.size) s.heap H locs → lv_has ls 4 [] → W p l e (headSpec wsX8_faultAmong ({ frames := 3, cells := 0, slots := 0, locals := 68 } : Room)).room s m ([.ref (a o), .int p1] : List Value).toArray below meth c H locs 0 0 (MQ below (va_Qi (fun r (u : SX8) => (r, u) = rs) (fun u t => mB D s.heap.size (wX8 cy a o S) (wX8 cy a o u) t) (va_A (wX8 cy a o S) s.heap.size)) ([.ref (a o), .int p1] : List Value).toArray s 0 0 (va_A (wX8 cy a o S) s.heap.size)) (F0 m 53 ls [])) (f : Nat) (v3_15 : Int32) (S8 : SX8) (H : Heap) (locs : List Loc) (ls : Array Slot), DX8_faultAmong_L14 c1_7 k9 k12 f v3_15 S8 = some rs → va_P D vwCl (wX8 cy a o S8) H → va_D (va_A (wX8 cy a o S) s.heap.size) (wX8 cy a o S8) → va_S (va_A (wX8 cy a o S) s.heap.size) s.heap H locs → lv_has ls 4 [(0, .ref (a o)), (1, .int c1_7), (3, .int v3_15)] → W p l e (headSpec wsX8_faultAmong ({ frames := 3, cells := 0, slots := 0, locals := 68 } : Room)).room s m ([.ref (a o), .int p1] : List Value).toArray below meth c H locs 0 0 (MQ below (va_Qi (fun r (u : SX8) => (r, u) = rs) (fun u t => mB D s.heap.size (wX8 cy a o S) (wX8 cy a o u) t) (va_A (wX8 cy a o S) s.heap.size)) ([.ref (a o), .int p1] : List Value).toArray s 0 0 (va_A (wX8 cy a o S) s.heap.size)) (F0 m 14 ls []) := by
      intro c1_7 k9 hk9 k12 hk12 f
      induction f with
      | zero =>
        intro v3_15 S8 H locs ls h hP hD hS hl
        rw [DX8_faultAmong_L14] at h
        cases h
      | succ f ih =>
        intro v3_15 S8 H locs ls h hP hD hS hl
        rw [DX8_faultAmong_L14] at h
        refine lv_iload_n hx hb dX8_faultAmong_14 rfl (lv_at hl 2 rfl) ?_
        refine lv_aload_n hx hb dX8_faultAmong_15 rfl (lv_at hl 0 rfl) ?_
        refine va_get (D := D) (ci := 8) (v := .int (gX8_found S8)) (C := RX8) (T := TX8) (N := 5) hx hb hts hinX8 hown hK hP 0 rfl rfl 2 (by decide) hf29 (fun _ h9 => h9) rfl dX8_faultAmong_16 ?_
        refine lv_icmp_ge (tgt := 53) hx hb dX8_faultAmong_19 (by decide) (fun cc => ?_) (fun cc => ?_)
        · have h := ite_p cc h
          exact hk12 S8 H locs ls h hP hD hS (lv_sub hl [] rfl)
        · have h := ite_n cc h
          refine lv_aload_n hx hb dX8_faultAmong_22 rfl (lv_at hl 0 rfl) ?_
          refine va_get (D := D) (ci := 8) (v := .ref (a (o + 2))) (C := RX8) (T := TX8) (N := 5) hx hb hts hinX8 hown hK hP 0 rfl rfl 3 (by decide) hf15 (fun _ h9 => h9) rfl dX8_faultAmong_23 ?_
          refine lv_iload_n hx hb dX8_faultAmong_26 rfl (lv_at hl 2 rfl) ?_
          obtain ⟨g16, h⟩ := gd_some h
          refine r_ald (f := (gX8_numbers S8)) (n := 4) (v := ((gX8_numbers S8) ((v3_15).toNatClampNeg))) hx hb hK hP 2 0 rfl rfl (gIn_in g16) rfl dX8_faultAmong_27 ?_
          refine lv_iload_n hx hb dX8_faultAmong_28 rfl (lv_at hl 1 rfl) ?_
          refine lv_icmp_ge (tgt := 40) hx hb dX8_faultAmong_29 (by decide) (fun cc => ?_) (fun cc => ?_)
          · have h := ite_p cc h
            exact hk9 v3_15 S8 H locs ls h hP hD hS (lv_sub hl [0, 2] rfl)
          · have h := ite_n cc h
            refine lv_aload_n hx hb dX8_faultAmong_32 rfl (lv_at hl 0 rfl) ?_
            refine lv_iload_n hx hb dX8_faultAmong_33 rfl (lv_at hl 2 rfl) ?_
            obtain ⟨x17, e18, h⟩ := bd_some h
            refine pcV (As := [.int v3_15]) (rest := []) (q0 := 0) (qX8_isToldBefore l D cy a o S8 v3_15 x17 e18) ⟨hx, hb, hml, hown, hts⟩ (cwV 1 hts gX8_faultAmong_X8_isToldBefore rfl rfl rfl (by decide +kernel) ⟨Nat.le_of_ble_eq_true rfl, Nat.le_of_ble_eq_true rfl⟩) hG hP rfl rfl rfl hl.1 rfl (Nat.le_of_ble_eq_true rfl) dX8_faultAmong_34 ⟨Nat.zero_le _, Nat.zero_le _⟩ ?_
            refine lv_if_eq (tgt := 47) hx hb dX8_faultAmong_37 (by decide) (fun cc => ?_) (fun cc => ?_)
            · have h := ite_p cc h
              refine lv_iinc (v := (v3_15 + (1 : Int32))) (lv' := [(3, .int (v3_15 + (1 : Int32))), (0, .ref (a o)), (1, .int c1_7)]) hx hb dX8_faultAmong_47 hl (k := 2) rfl (by rfl) (by decide) rfl (fun ls hl => ?_)
              refine lv_goto (tgt := 14) hx hb dX8_faultAmong_50 (by decide) ?_
              exact ih (v3_15 + (1 : Int32)) S8 H locs ls h hP hD hS (lv_sub hl [1, 2, 0] rfl)
            · have h := ite_n cc h
              exact hk9 v3_15 S8 H locs ls h hP hD hS (lv_sub hl [0, 2] rfl)
    refine L19 p1 _ Jj5 _ ?_ fu (0 : Int32) x1.2 H locs ls h hP hD hS (lv_sub hl [2, 3, 0] rfl)
    intro S14 H locs ls h hP hD hS hl
    refine lv_iconst (v := (-1 : Int32)) hx hb dX8_faultAmong_53 (by decide) ?_
    exact W.iret (v := (-1 : Int32)) hx hb hr (fun t ht hW => ⟨⟨(-1 : Int32), S14, rfl, some_in h, by rw [ht]; exact hP, hD⟩, hS.F ht⟩) hS.2.2 dX8_faultAmong_54
  · have h := ite_n cc h
    refine lv_iload_n hx hb dX8_faultAmong_10 rfl (lv_at hl 0 rfl) ?_
    exact W.iret (v := x1.1) hx hb hr (fun t ht hW => ⟨⟨x1.1, x1.2, rfl, some_in h, by rw [ht]; exact hP, hD⟩, hS.F ht⟩) hS.2.2 dX8_faultAmong_11
set_option maxHeartbeats 4000000 in
set_option maxRecDepth 100000 in
theorem qX10_append (l : Launch) (D : va_G) (cy : Nat → ClassId) (a : Nat → Nat) (o : Nat) (S : SX10) (p1 : Int32) (p2 : Int32) (p3 : Int32) (sz : Nat) (rs : Int32 × SX10) (h : DX10_append S p1 p2 p3 = some rs) : Met l yX10_append wsX10_append ({ frames := 0, cells := 0, slots := 0, locals := 0 } : Room) (mP D cy sz [.ref (a o), .int p1, .int p2, .int p3] (wX10 cy a o S)) (va_Qi (fun r (u : SX10) => (r, u) = rs) (fun u t => mB D sz (wX10 cy a o S) (wX10 cy a o u) t) (va_A (wX10 cy a o S) sz)) 0 0 (va_A (wX10 cy a o S) sz) := by
  refine Met.ofW (cc := cX10_append) (maxL := 5) (ret := (some .int)) (by decide) rfl ?_
  intro p e s m args below meth c s₁ B hml hv
  obtain ⟨rfl, hsz, hP, hG, hD0⟩ := hv
  have hx := B.exec
  have hb := B.bytes
  have hr := B.returns
  have hts := atoms_spec (ws := wsX10_append) B.pre
  have hown : s.vm.findClass RX10 = some m.cls := findClass_of_methodNamed B.named
  have hlocks := B.notSynchronized
  have hK := hG.1
  subst hsz
  have hD := hD0.self (sz := s.heap.size)
  have hA : ∀ q : Nat, s.heap.size ≤ q → (va_A (wX10 cy a o S) s.heap.size) q := fun q h => Or.inr h
  have hS : va_S (va_A (wX10 cy a o S) s.heap.size) s.heap s.heap [] := va_S.rf
  have hinX10 := (by decide +kernel : ∀ w ∈ wsX100, w ∈ wsX10_append)
  have hf21 := hts (.fieldLink RX10 21 "PianoRounds$Works" "count" "I") (by decide +kernel)
  have hf9 := hts (.fieldLink RX10 9 "PianoRounds$Works" "composers" "[I") (by decide +kernel)
  have hf15 := hts (.fieldLink RX10 15 "PianoRounds$Works" "eras" "[I") (by decide +kernel)
  have hf18 := hts (.fieldLink RX10 18 "PianoRounds$Works" "lengths" "[I") (by decide +kernel)
  have hl := lv_entry ([.ref (a o), .int p1, .int p2, .int p3]) (n := 5) (Nat.le_of_ble_eq_true rfl)
  rw [lg_entry_eq]
  generalize (lg_sl ([.ref (a o), .int p1, .int p2, .int p3]) ++ List.replicate (5 - (lg_sl ([.ref (a o), .int p1, .int p2, .int p3])).length) Slot.unset).toArray = ls at hl ⊢
  have hl : lv_has ls 5 [(0, .ref (a o)), (1, .int p1), (2, .int p2), (3, .int p3)] := hl
  rw [DX10_append] at h
  refine lv_aload_n hx hb dX10_append_0 rfl (lv_at hl 0 rfl) ?_
  refine va_get (D := D) (ci := 10) (v := .int (gX10_count S)) (C := RX10) (T := TX10) (N := 4) hx hb hts hinX10 hown hK hP 0 rfl rfl 0 (by decide) hf21 (fun _ h9 => h9) rfl dX10_append_1 ?_
  refine lv_bipush (v := (30 : Int32)) hx hb dX10_append_4 (by decide) ?_
  refine lv_icmp_lt (tgt := 11) hx hb dX10_append_6 (by decide) (fun cc => ?_) (fun cc => ?_)
  · have h := ite_p cc h
    refine lv_aload_n hx hb dX10_append_11 rfl (lv_at hl 0 rfl) ?_
    refine va_get (D := D) (ci := 10) (v := .int (gX10_count S)) (C := RX10) (T := TX10) (N := 4) hx hb hts hinX10 hown hK hP 0 rfl rfl 0 (by decide) hf21 (fun _ h9 => h9) rfl dX10_append_12 ?_
    refine lv_istore (lv' := [(4, .int (gX10_count S)), (0, .ref (a o)), (1, .int p1), (2, .int p2), (3, .int p3)]) hx hb dX10_append_15 hl (by decide) rfl (fun ls hl => ?_)
    refine lv_aload_n hx hb dX10_append_17 rfl (lv_at hl 1 rfl) ?_
    refine va_get (D := D) (ci := 10) (v := .ref (a (o + 1))) (C := RX10) (T := TX10) (N := 4) hx hb hts hinX10 hown hK hP 0 rfl rfl 1 (by decide) hf9 (fun _ h9 => h9) rfl dX10_append_18 ?_
    refine lv_iload hx hb dX10_append_21 (lv_at hl 0 rfl) ?_
    refine lv_iload_n hx hb dX10_append_23 rfl (lv_at hl 2 rfl) ?_
    obtain ⟨g1, h⟩ := gd_some h
    refine r_ast (f := (gX10_composers S)) (f' := (upd (gX10_composers S) (((gX10_count S)).toNatClampNeg) p1)) (n := 30) (ws' := (wX10 cy a o (uX10_composers S (upd (gX10_composers S) (((gX10_count S)).toNatClampNeg) p1)))) hx hb hK hP hD hS 1 0 rfl rfl (gIn_in g1) rfl rfl dX10_append_24 (fun H locs hP hD hS => ?_)
    obtain ⟨S2, eS3, h⟩ := lt_elim h
    have hP : va_P D vwCl (wX10 cy a o S2) H := by rw [eS3]; exact hP
    have hD : va_D (va_A (wX10 cy a o S) s.heap.size) (wX10 cy a o S2) := by rw [eS3]; exact hD
    refine lv_aload_n hx hb dX10_append_25 rfl (lv_at hl 1 rfl) ?_
    refine va_get (D := D) (ci := 10) (v := .ref (a (o + 2))) (C := RX10) (T := TX10) (N := 4) hx hb hts hinX10 hown hK hP 0 rfl rfl 2 (by decide) hf15 (fun _ h9 => h9) rfl dX10_append_26 ?_
    refine lv_iload hx hb dX10_append_29 (lv_at hl 0 rfl) ?_
    refine lv_iload_n hx hb dX10_append_31 rfl (lv_at hl 3 rfl) ?_
    obtain ⟨g4, h⟩ := gd_some h
    refine r_ast (f := (gX10_eras S2)) (f' := (upd (gX10_eras S2) (((gX10_count S)).toNatClampNeg) p2)) (n := 30) (ws' := (wX10 cy a o (uX10_eras S2 (upd (gX10_eras S2) (((gX10_count S)).toNatClampNeg) p2)))) hx hb hK hP hD hS 2 0 rfl rfl (gIn_in g4) rfl rfl dX10_append_32 (fun H locs hP hD hS => ?_)
    obtain ⟨S5, eS6, h⟩ := lt_elim h
    have hP : va_P D vwCl (wX10 cy a o S5) H := by rw [eS6]; exact hP
    have hD : va_D (va_A (wX10 cy a o S) s.heap.size) (wX10 cy a o S5) := by rw [eS6]; exact hD
    refine lv_aload_n hx hb dX10_append_33 rfl (lv_at hl 1 rfl) ?_
    refine va_get (D := D) (ci := 10) (v := .ref (a (o + 3))) (C := RX10) (T := TX10) (N := 4) hx hb hts hinX10 hown hK hP 0 rfl rfl 3 (by decide) hf18 (fun _ h9 => h9) rfl dX10_append_34 ?_
    refine lv_iload hx hb dX10_append_37 (lv_at hl 0 rfl) ?_
    refine lv_iload_n hx hb dX10_append_39 rfl (lv_at hl 4 rfl) ?_
    obtain ⟨g7, h⟩ := gd_some h
    refine r_ast (f := (gX10_lengths S5)) (f' := (upd (gX10_lengths S5) (((gX10_count S)).toNatClampNeg) p3)) (n := 30) (ws' := (wX10 cy a o (uX10_lengths S5 (upd (gX10_lengths S5) (((gX10_count S)).toNatClampNeg) p3)))) hx hb hK hP hD hS 3 0 rfl rfl (gIn_in g7) rfl rfl dX10_append_40 (fun H locs hP hD hS => ?_)
    obtain ⟨S8, eS9, h⟩ := lt_elim h
    have hP : va_P D vwCl (wX10 cy a o S8) H := by rw [eS9]; exact hP
    have hD : va_D (va_A (wX10 cy a o S) s.heap.size) (wX10 cy a o S8) := by rw [eS9]; exact hD
    refine lv_aload_n hx hb dX10_append_41 rfl (lv_at hl 1 rfl) ?_
    refine lv_iload hx hb dX10_append_42 (lv_at hl 0 rfl) ?_
    refine lv_iconst (v := (1 : Int32)) hx hb dX10_append_44 (by decide) ?_
    refine lv_iadd hx hb dX10_append_45 ?_
    refine va_put (D := D) (ci := 10) (v := .int ((gX10_count S) + (1 : Int32))) (ty := .int) (C := RX10) (T := TX10) (N := 4) hx hb hts hinX10 tyX10 tyX10_ok nmX10 hown hK hP hD hS 0 rfl rfl 0 (by decide) hf21 (fun _ h9 => h9) rfl (by decide +kernel) rfl rfl (Nat.le_of_ble_eq_true rfl) dX10_append_46 (fun H locs hP hD hS => ?_)
    have hP : va_P D vwCl (wX10 cy a o (uX10_count S8 ((gX10_count S) + (1 : Int32)))) H := hP
    have hD : va_D (va_A (wX10 cy a o S) s.heap.size) (wX10 cy a o (uX10_count S8 ((gX10_count S) + (1 : Int32)))) := hD
    obtain ⟨S10, eS11, h⟩ := lt_elim h
    have hP : va_P D vwCl (wX10 cy a o S10) H := by rw [eS11]; exact hP
    have hD : va_D (va_A (wX10 cy a o S) s.heap.size) (wX10 cy a o S10) := by rw [eS11]; exact hD
    refine lv_iload hx hb dX10_append_49 (lv_at hl 0 rfl) ?_
    exact W.iret (v := (gX10_count S)) hx hb hr (fun t ht hW => ⟨⟨(gX10_count S), S10, rfl, some_in h, by rw [ht]; exact hP, hD⟩, hS.F ht⟩) hS.2.2 dX10_append_51
  · have h := ite_n cc h
    refine lv_iconst (v := (-1 : Int32)) hx hb dX10_append_9 (by decide) ?_
    exact W.iret (v := (-1 : Int32)) hx hb hr (fun t ht hW => ⟨⟨(-1 : Int32), S, rfl, some_in h, by rw [ht]; exact hP, hD⟩, hS.F ht⟩) hS.2.2 dX10_append_10
set_option maxHeartbeats 4000000 in
set_option maxRecDepth 100000 in
theorem qX10_fact (l : Launch) (D : va_G) (cy : Nat → ClassId) (a : Nat → Nat) (o : Nat) (S : SX10) (p1 : Int32) (p2 : Int32) (rs : Int32) (h : DX10_fact S p1 p2 = some rs) : Met l yX10_fact wsX10_fact ({ frames := 2, cells := 0, slots := 0, locals := 42 } : Room) (va_Pc [.ref (a o), .int p1, .int p2] (fun U => va_P D vwCl (wX10 cy a o S) U.heap ∧ gK D cy U)) (vp_Si (fun z => z = rs)) 0 0 (fun _ => False) := by
  refine Met.ofW (cc := cX10_fact) (maxL := 3) (ret := (some .int)) (by decide) rfl ?_
  intro p e s m args below meth c s₁ B hml hv
  obtain ⟨rfl, hP, hG⟩ := hv
  have hx := B.exec
  have hb := B.bytes
  have hr := B.returns
  have hts := atoms_spec (ws := wsX10_fact) B.pre
  have hown : s.vm.findClass RX10 = some m.cls := findClass_of_methodNamed B.named
  have hlocks := B.notSynchronized
  have hK := hG.1
  have hl := lv_entry ([.ref (a o), .int p1, .int p2]) (n := 3) (Nat.le_of_ble_eq_true rfl)
  rw [lg_entry_eq]
  generalize (lg_sl ([.ref (a o), .int p1, .int p2]) ++ List.replicate (3 - (lg_sl ([.ref (a o), .int p1, .int p2])).length) Slot.unset).toArray = ls at hl ⊢
  have hl : lv_has ls 3 [(0, .ref (a o)), (1, .int p1), (2, .int p2)] := hl
  rw [DX10_fact] at h
  refine lv_iload_n hx hb dX10_fact_0 rfl (lv_at hl 2 rfl) ?_
  by_cases c0 : p2 = (0 : Int32)
  · have h := ite_p c0 h
    refine lv_lookup (tgt := 28) (off := 27) hx hb dX10_fact_1 (by decide) (by rw [c0]; decide) (by decide) ?_
    refine lv_aload_n hx hb dX10_fact_28 rfl (lv_at hl 0 rfl) ?_
    refine lv_iload_n hx hb dX10_fact_29 rfl (lv_at hl 1 rfl) ?_
    obtain ⟨x1, e2, h⟩ := bd_some h
    refine pcV (As := [.int p1]) (rest := []) (q0 := 0) (qX10_composerOf l D cy a o S p1 x1 e2) ⟨hx, hb, hml, hown, hts⟩ (cwV 1 hts gX10_fact_X10_composerOf rfl rfl rfl (by decide +kernel) ⟨Nat.le_of_ble_eq_true rfl, Nat.le_of_ble_eq_true rfl⟩) hG hP rfl rfl rfl hl.1 rfl (Nat.le_of_ble_eq_true rfl) dX10_fact_30 ⟨Nat.zero_le _, Nat.zero_le _⟩ ?_
    exact W.iret (v := x1) hx hb hr (fun t ht hW => ⟨x1, rfl, some_in h, ht⟩) (fun q hq => nomatch hq) dX10_fact_33
  have h := ite_n c0 h
  by_cases c1 : p2 = (1 : Int32)
  · have h := ite_p c1 h
    refine lv_lookup (tgt := 34) (off := 33) hx hb dX10_fact_1 (by decide) (by rw [c1]; decide) (by decide) ?_
    refine lv_aload_n hx hb dX10_fact_34 rfl (lv_at hl 0 rfl) ?_
    refine lv_iload_n hx hb dX10_fact_35 rfl (lv_at hl 1 rfl) ?_
    obtain ⟨x3, e4, h⟩ := bd_some h
    refine pcV (As := [.int p1]) (rest := []) (q0 := 0) (qX10_eraOf l D cy a o S p1 x3 e4) ⟨hx, hb, hml, hown, hts⟩ (cwV 1 hts gX10_fact_X10_eraOf rfl rfl rfl (by decide +kernel) ⟨Nat.le_of_ble_eq_true rfl, Nat.le_of_ble_eq_true rfl⟩) hG hP rfl rfl rfl hl.1 rfl (Nat.le_of_ble_eq_true rfl) dX10_fact_36 ⟨Nat.zero_le _, Nat.zero_le _⟩ ?_
    exact W.iret (v := x3) hx hb hr (fun t ht hW => ⟨x3, rfl, some_in h, ht⟩) (fun q hq => nomatch hq) dX10_fact_39
  have h := ite_n c1 h
  refine lv_lookup (tgt := 40) (off := 39) hx hb dX10_fact_1 (by decide) ((lv_osw c0 (by decide)).trans ((lv_osw c1 (by decide)).trans rfl)) (by decide) ?_
  refine lv_aload_n hx hb dX10_fact_40 rfl (lv_at hl 0 rfl) ?_
  refine lv_iload_n hx hb dX10_fact_41 rfl (lv_at hl 1 rfl) ?_
  obtain ⟨x5, e6, h⟩ := bd_some h
  refine pcV (As := [.int p1]) (rest := []) (q0 := 0) (qX10_minutesOf l D cy a o S p1 x5 e6) ⟨hx, hb, hml, hown, hts⟩ (cwV 1 hts gX10_fact_X10_minutesOf rfl rfl rfl (by decide +kernel) ⟨Nat.le_of_ble_eq_true rfl, Nat.le_of_ble_eq_true rfl⟩) hG hP rfl rfl rfl hl.1 rfl (Nat.le_of_ble_eq_true rfl) dX10_fact_42 ⟨Nat.zero_le _, Nat.zero_le _⟩ ?_
  exact W.iret (v := x5) hx hb hr (fun t ht hW => ⟨x5, rfl, some_in h, ht⟩) (fun q hq => nomatch hq) dX10_fact_45
